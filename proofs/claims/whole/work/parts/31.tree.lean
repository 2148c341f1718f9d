/-! objects as trees: an atom's number, a pair -/
abbrev Tr : Type := Lean.Data.AC.Expr
def tr_nat (v : Nat) : Tr := .var (2 * v)
def tr_sym (c : Nat) : Tr := .var (2 * c + 1)
theorem tr_nat_inj {a b : Nat} (h : tr_nat a = tr_nat b) : a = b := by
  simp only [tr_nat, Lean.Data.AC.Expr.var.injEq] at h
  omega
theorem tr_sym_inj {a b : Nat} (h : tr_sym a = tr_sym b) : a = b := by
  simp only [tr_sym, Lean.Data.AC.Expr.var.injEq] at h
  omega
theorem tr_ns {a b : Nat} (h : tr_nat a = tr_sym b) : False := by
  simp only [tr_nat, tr_sym, Lean.Data.AC.Expr.var.injEq] at h
  omega
/-- the symbol nil, by its characters in base 47: n, i, l -/
def sy_nil : Nat := (14 * 47 + 9) * 47 + 12
def sy_quote : Nat := (((17 * 47 + 21) * 47 + 15) * 47 + 20) * 47 + 5
def tr_nil : Tr := tr_sym sy_nil
def tr_quote : Tr := tr_sym sy_quote
def tr_dep : Tr → Nat
  | .var _ => 0
  | .op a b => 1 + max (tr_dep a) (tr_dep b)
/-- how many elements a list has; none of another one -/
def tr_len : Tr → Option Nat
  | .var c => if c = 2 * sy_nil + 1 then some 0 else none
  | .op _ b => (tr_len b).map (· + 1)
def tr_isp : Tr → Bool
  | .var _ => false
  | .op _ _ => true
/-- an int that is -1 for none -/
def oI : Option Nat → Int32
  | none => -1
  | some k => nI k
