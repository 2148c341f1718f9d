/-! the Store's objects are trees -/
def st_nd (keys : Nat → Int64) (dp ln : Nat → Int32) (t : Nat → Tr) (i : Nat) : Prop := dp i = nI (tr_dep (t i)) ∧ tr_dep (t i) ≤ i ∧ ln i = oI (tr_len (t i)) ∧ (∀ q, tr_len (t i) = some q → q ≤ i) ∧
  ((∃ v, v < 4611686018427387904 ∧ keys i = lN (4 * v + 0) ∧ t i = tr_nat v) ∨ (∃ v, v < 4611686018427387904 ∧ keys i = lN (4 * v + 1) ∧ t i = tr_sym v) ∨ (∃ a b, a < i ∧ b < i ∧ keys i = lN (4 * (a * 1048576 + b) + 2) ∧ t i = .op (t a) (t b)))
def st_ok (cap n e0 : Nat) (keys : Nat → Int64) (dp ln sl : Nat → Int32) (t : Nat → Tr) : Prop := st_tb cap n e0 keys sl ∧ (∀ i, i < n → st_nd keys dp ln t i) ∧ 2 ≤ n ∧ t 0 = tr_nil ∧ t 1 = tr_quote
/-- a key's value and kind: what a tree's node is -/
def st_des (n : Nat) (t : Nat → Tr) (v k : Nat) (T : Tr) : Prop := (v < 4611686018427387904 ∧ k = 0 ∧ T = tr_nat v) ∨ (v < 4611686018427387904 ∧ k = 1 ∧ T = tr_sym v) ∨ (k = 2 ∧ ∃ a b, a < n ∧ b < n ∧ v = a * 1048576 + b ∧ T = .op (t a) (t b))
theorem lN_inj {a b : Nat} (ha : a < 18446744073709551616) (hb : b < 18446744073709551616) (h : lN a = lN b) : a = b := by
  have h1 := wb_tn (n := a) ha
  have h2 := wb_tn (n := b) hb
  rw [h] at h1
  omega
theorem st_des.lt {n : Nat} {t : Nat → Tr} {v k : Nat} {T : Tr} (h : st_des n t v k T) (hn : n ≤ 16384) : v < 4611686018427387904 ∧ k < 4 := by
  rcases h with ⟨h1, h2, -⟩ | ⟨h1, h2, -⟩ | ⟨h1, a, b, h2, h3, h4, -⟩
  · omega
  · omega
  · omega
/-- an object with this key is this tree -/
theorem st_ok.key {cap n e0 : Nat} {keys : Nat → Int64} {dp ln sl : Nat → Int32} {t : Nat → Tr} (h : st_ok cap n e0 keys dp ln sl t) {v k : Nat} {T : Tr} (hd : st_des n t v k T) {j : Nat} (hj : j < n) (hk : keys j = lN (4 * v + k)) : t j = T := by
  have hc := h.1.cap
  have hn := h.1.2.1
  obtain ⟨-, -, -, -, hnd⟩ := h.2.1 j hj
  have hl := hd.lt (by omega)
  rcases hnd with ⟨v2, g1, g2, g3⟩ | ⟨v2, g1, g2, g3⟩ | ⟨a, b, g0, g1, g2, g3⟩
  · rw [g2] at hk
    have := lN_inj (by omega) (by omega) hk
    rcases hd with ⟨h1, h2, h3⟩ | ⟨h1, h2, h3⟩ | ⟨h1, -⟩
    · rw [g3, h3, show v2 = v by omega]
    · omega
    · omega
  · rw [g2] at hk
    have := lN_inj (by omega) (by omega) hk
    rcases hd with ⟨h1, h2, h3⟩ | ⟨h1, h2, h3⟩ | ⟨h1, -⟩
    · omega
    · rw [g3, h3, show v2 = v by omega]
    · omega
  · rw [g2] at hk
    have := lN_inj (by omega) (by omega) hk
    rcases hd with ⟨h1, h2, h3⟩ | ⟨h1, h2, h3⟩ | ⟨h1, a2, b2, h2, h3, h4, h5⟩
    · omega
    · omega
    · rw [g3, h5, show a = a2 by omega, show b = b2 by omega]
/-- one more object -/
theorem st_ok.push {cap n e0 : Nat} {keys : Nat → Int64} {dp ln sl sl2 : Nat → Int32} {t : Nat → Tr} (h : st_ok cap n e0 keys dp ln sl t) {v k : Nat} {T : Tr} (hd : st_des n t v k T) (h2 : st_tb cap (n + 1) e0 (vp_updL keys n (lN (4 * v + k))) sl2) : st_ok cap (n + 1) e0 (vp_updL keys n (lN (4 * v + k))) (upd dp n (nI (tr_dep T))) (upd ln n (oI (tr_len T))) sl2 (va_up t n T) := by
  have hn2 := h.2.2.1
  refine ⟨h2, fun i hi => ?_, by omega, by rw [va_up_ne _ _ (by omega)]; exact h.2.2.2.1, by rw [va_up_ne _ _ (by omega)]; exact h.2.2.2.2⟩
  rcases Nat.lt_or_ge i n with hin | hin
  · obtain ⟨g1, g2, g3, g4, g5⟩ := h.2.1 i hin
    have e1 : va_up t n T i = t i := va_up_ne _ _ (by omega)
    have e2 : vp_updL keys n (lN (4 * v + k)) i = keys i := pk_uLn (by omega)
    refine ⟨by rw [pk_un (by omega), e1]; exact g1, by rw [e1]; exact g2, by rw [pk_un (by omega), e1]; exact g3, by rw [e1]; exact g4, ?_⟩
    rw [e1, e2]
    rcases g5 with g | g | ⟨a, b, q1, q2, q3, q4⟩
    · exact Or.inl g
    · exact Or.inr (Or.inl g)
    · exact Or.inr (Or.inr ⟨a, b, q1, q2, q3, by rw [va_up_ne _ _ (by omega), va_up_ne _ _ (by omega)]; exact q4⟩)
  · have hie : i = n := by omega
    subst hie
    have e2 : vp_updL keys i (lN (4 * v + k)) i = lN (4 * v + k) := pk_uLs
    refine ⟨by rw [pk_us, va_up_self], ?_, by rw [pk_us, va_up_self], ?_, ?_⟩
    · rw [va_up_self]
      rcases hd with ⟨-, -, h3⟩ | ⟨-, -, h3⟩ | ⟨-, a, b, q1, q2, -, h3⟩
      · rw [h3]; exact Nat.zero_le _
      · rw [h3]; exact Nat.zero_le _
      · have := (h.2.1 a q1).2.1
        have := (h.2.1 b q2).2.1
        rw [h3]
        simp only [tr_dep]
        omega
    · rw [va_up_self]
      intro q hq
      rcases hd with ⟨-, -, h3⟩ | ⟨-, -, h3⟩ | ⟨-, a, b, q1, q2, -, h3⟩
      · rw [h3] at hq
        simp only [tr_nat, tr_len] at hq
        split at hq
        · cases hq; omega
        · cases hq
      · rw [h3] at hq
        simp only [tr_sym, tr_len] at hq
        split at hq
        · cases hq; omega
        · cases hq
      · rw [h3] at hq
        simp only [tr_len] at hq
        obtain ⟨q0, hq0, rfl⟩ := Option.map_eq_some_iff.mp hq
        have := (h.2.1 b q2).2.2.2.1 q0 hq0
        omega
    · rw [va_up_self, e2]
      rcases hd with ⟨h1, h2, h3⟩ | ⟨h1, h2, h3⟩ | ⟨h1, a, b, q1, q2, q3, h3⟩
      · exact Or.inl ⟨v, h1, by rw [h2], h3⟩
      · exact Or.inr (Or.inl ⟨v, h1, by rw [h2], h3⟩)
      · exact Or.inr (Or.inr ⟨a, b, q1, q2, by rw [h1, q3], by rw [va_up_ne _ _ (by omega), va_up_ne _ _ (by omega)]; exact h3⟩)
/-- equal trees are one object -/
theorem st_ok.inj {cap n e0 : Nat} {keys : Nat → Int64} {dp ln sl : Nat → Int32} {t : Nat → Tr} (h : st_ok cap n e0 keys dp ln sl t) : ∀ (d i j : Nat), i < d → i < n → j < n → t i = t j → i = j := by
  intro d
  induction d with
  | zero => intro i j hd; omega
  | succ d ih =>
    intro i j hd hi hj hij
    refine h.1.2.2.2.2.2 i j hi hj ?_
    obtain ⟨-, -, -, -, g⟩ := h.2.1 i hi
    obtain ⟨-, -, -, -, g'⟩ := h.2.1 j hj
    rcases g with ⟨v, g1, g2, g3⟩ | ⟨v, g1, g2, g3⟩ | ⟨a, b, g0, g1, g2, g3⟩
    · rcases g' with ⟨w, k1, k2, k3⟩ | ⟨w, k1, k2, k3⟩ | ⟨a', b', k0, k1, k2, k3⟩
      · rw [g3, k3] at hij; rw [g2, k2, tr_nat_inj hij]
      · rw [g3, k3] at hij; exact (tr_ns hij).elim
      · rw [g3, k3] at hij; cases hij
    · rcases g' with ⟨w, k1, k2, k3⟩ | ⟨w, k1, k2, k3⟩ | ⟨a', b', k0, k1, k2, k3⟩
      · rw [g3, k3] at hij; exact (tr_ns hij.symm).elim
      · rw [g3, k3] at hij; rw [g2, k2, tr_sym_inj hij]
      · rw [g3, k3] at hij; cases hij
    · rcases g' with ⟨w, k1, k2, k3⟩ | ⟨w, k1, k2, k3⟩ | ⟨a', b', k0, k1, k2, k3⟩
      · rw [g3, k3] at hij; cases hij
      · rw [g3, k3] at hij; cases hij
      · rw [g3, k3] at hij
        simp only [Lean.Data.AC.Expr.op.injEq] at hij
        rw [g2, k2, ih a a' (by omega) (by omega) (by omega) hij.1, ih b b' (by omega) (by omega) (by omega) hij.2]
