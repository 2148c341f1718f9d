/-! the constant texts -/
def am_len4 : List Nat := [47, 10, 3, 5]
def am_byt4 : List (List Int32) := [[32, 97, 98, 99, 100, 101, 102, 103, 104, 105, 106, 107, 108, 109, 110, 111, 112, 113, 114, 115, 116, 117, 118, 119, 120, 121, 122, 48, 49, 50, 51, 52, 53, 54, 55, 56, 57, 43, 45, 42, 47, 60, 62, 61, 63, 33, 95], [48, 49, 50, 51, 52, 53, 54, 55, 56, 57], [110, 105, 108], [113, 117, 111, 116, 101]]
def am_strT : List (String × Nat × Nat × String) := [("ObjectTexts$Signs", 9, 2000000, " abcdefghijklmnopqrstuvwxyz0123456789+-*/<>=?!_"), ("ObjectTexts$Store", 37, 2000002, "nil"), ("ObjectTexts$Store", 49, 2000003, "quote"), ("ObjectTexts$Teller", 73, 2000001, "0123456789"), ("ObjectTexts$Teller", 79, 2000000, " abcdefghijklmnopqrstuvwxyz0123456789+-*/<>=?!_")]
def am_okStr (own : String) (idx q : Nat) : Bool := am_strT.any (fun z => decide (z.1 = own) && Nat.beq z.2.1 idx && Nat.beq z.2.2.1 q && Nat.ble 1000000 q)
def am_RO (μ : Nat → Nat) (A : Nat → Prop) (U : State) (H : Heap) : Prop := vk_S 4 am_len4 am_byt4 (fun i => μ (2000000 + i)) (fun i => μ (3000000 + i)) A U H ∧ (∀ q ∈ am_strT, vk_R q.1 q.2.1 q.2.2.2 (μ q.2.2.1) U) ∧ va_Z "java/lang/String" "COMPACT_STRINGS" "Z" (.int 1) A U H ∧ (va_Z "jdk/internal/util/Preconditions" "SIOOBE_FORMATTER" "Ljava/util/function/BiFunction;" .null A U H ∨ va_Z "jdk/internal/util/Preconditions" "SIOOBE_FORMATTER" "Ljava/util/function/BiFunction;" (.ref (μ 4000000)) A U H)
theorem am_RO.kept {μ : Nat → Nat} {A : Nat → Prop} {U : State} {H0 H H1 : Heap} {locs locs1 : List Loc} (h : am_RO μ A U H) (hA : ∀ q, H0.size ≤ q → A q) (hS : va_S A H0 H locs) (hS1 : va_S A H0 H1 locs1) : am_RO μ A U H1 := by
  have hq : ∀ a : Nat, a < H.size → ¬ A a → H1[a]? = H[a]? := by
    intro a _ ha
    have h1 : a < H0.size := Nat.not_le.mp fun z => ha (hA a z)
    rw [hS.2.1 a h1 ha, hS1.2.1 a h1 ha]
  exact ⟨h.1.kept hq, h.2.1, h.2.2.1.kept hq, h.2.2.2.imp (fun z => z.kept hq) (fun z => z.kept hq)⟩
theorem am_RO.narrow {μ : Nat → Nat} {A B : Nat → Prop} {U : State} {H : Heap} (h : am_RO μ A U H) (hAB : ∀ q, B q → A q) : am_RO μ B U H := ⟨h.1.narrow hAB, h.2.1, h.2.2.1.narrow hAB, h.2.2.2.imp (fun z => z.narrow hAB) (fun z => z.narrow hAB)⟩
theorem am_RO.warm {μ : Nat → Nat} {A : Nat → Prop} {s U : State} {H : Heap} (h : am_RO μ A s H) (hW : s.WarmedH U.vm) : am_RO μ A U H := ⟨vk_S.moved hW.alike h.1, fun q hq => vk_R.warm hW (h.2.1 q hq), va_Z.moved hW.alike h.2.2.1, h.2.2.2.imp (va_Z.moved hW.alike) (va_Z.moved hW.alike)⟩
theorem am_RO.same {μ : Nat → Nat} {A : Nat → Prop} {u U : State} {H : Heap} (h : am_RO μ A u H) (hv : U.vm = u.vm) : am_RO μ A U H := ⟨vk_S.moved (by rw [hv]; exact Vm.Alike.refl _) h.1, fun q hq => vk_R.same hv (h.2.1 q hq), va_Z.moved (by rw [hv]; exact Vm.Alike.refl _) h.2.2.1, h.2.2.2.imp (va_Z.moved (by rw [hv]; exact Vm.Alike.refl _)) (va_Z.moved (by rw [hv]; exact Vm.Alike.refl _))⟩
theorem am_RO.ag {μ ν : Nat → Nat} {A : Nat → Prop} {U : State} {H : Heap} (h : am_RO μ A U H) (hg : ∀ k, 1000000 ≤ k → ν k = μ k) : am_RO ν A U H := by
  have e1 : (fun i => ν (2000000 + i)) = (fun i => μ (2000000 + i)) := funext fun i => hg _ (by omega)
  have e2 : (fun i => ν (3000000 + i)) = (fun i => μ (3000000 + i)) := funext fun i => hg _ (by omega)
  refine ⟨by rw [e1, e2]; exact h.1, fun q hq => ?_, h.2.2.1, by rw [hg 4000000 (by omega)]; exact h.2.2.2⟩
  have hb : ∀ q ∈ am_strT, 1000000 ≤ q.2.2.1 := by decide
  rw [hg _ (hb q hq)]
  exact h.2.1 q hq
theorem am_RO.str {μ : Nat → Nat} {A : Nat → Prop} {U : State} {H : Heap} (h : am_RO μ A U H) {own : String} {idx q : Nat} (hk : am_okStr own idx q = true) : ∃ tx, 1000000 ≤ q ∧ vk_R own idx tx (μ q) U := by
  obtain ⟨z, hz, h1⟩ := List.any_eq_true.mp hk
  simp only [Bool.and_eq_true] at h1
  obtain ⟨⟨⟨g1, g2⟩, g3⟩, g4⟩ := h1
  have g1 := of_decide_eq_true g1
  have g2 := Nat.eq_of_beq_eq_true g2
  have g3 := Nat.eq_of_beq_eq_true g3
  have := h.2.1 z hz
  rw [g1, g2, g3] at this
  exact ⟨_, Nat.le_of_ble_eq_true g4, this⟩
/-- the words that stay -/
def am_goodW (w : Jvm.Cond) : Bool := (w.onTables && w.keeps) || (match w with
  | .arrayClass _ => true
  | _ => false)
def am_tb : List Jvm.Cond := lw_tbl.filter am_goodW
theorem am_tb_in {w : Jvm.Cond} (h : w ∈ am_tb) : w ∈ lw_tbl := (List.mem_filter.mp h).1
