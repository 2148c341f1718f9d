/-! java.util.Arrays: fill, copyOf -/
def arH (len : Nat) (f : Nat → Int32) : am_H := [.inl (0, len, .inl f)]
def alH (len : Nat) (f : Nat → Int64) : am_H := [.inl (1, len, .inr (.inl f))]
def ar_fl (k : Nat) (f : Nat → Int32) (x : Int32) : Nat → Int32 := fun j => if j < k then x else f j
theorem ar_fl_0 (f : Nat → Int32) (x : Int32) : ar_fl 0 f x = f := by
  funext j
  simp [ar_fl]
theorem ar_fl_s (k : Nat) (f : Nat → Int32) (x : Int32) : upd (ar_fl k f x) k x = ar_fl (k + 1) f x := by
  funext j
  simp only [upd, ar_fl]
  by_cases h : j = k
  · rw [if_pos h, if_pos (by omega)]
  · rw [if_neg h]
    by_cases h2 : j < k
    · rw [if_pos h2, if_pos (by omega)]
    · rw [if_neg h2, if_neg (by omega)]
set_option maxHeartbeats 2000000 in
set_option maxRecDepth 100000 in
theorem c_Ja_fill (l : Launch) (len : Nat) (f : Nat → Int32) (x : Int32) (hl : len < 2 ^ 31) : Con l y_Ja_fill M_Ja_fill 0 0 [.ref 0, .int x] (arH len f) 1 0 0 0 (fun r h' => r = none ∧ h' = arH len (ar_fl len f x)) := by
  refine Con.ent ok_Ja_fill (by decide +kernel) rfl ?_
  intro pA eA sA mA argsA belowA methA cA GA μA
  refine aw_go 5 5 [some (.ref 0), some (.int x), some (.int (nI 0)), some (.int (nI len))] [] (arH len (ar_fl 0 f x)) (by rw [ar_fl_0]; rfl) ?_
  refine aw_loop (σ := Nat) (fun k => k ≤ len) (fun k => len - k) (fun k => [some (.ref 0), some (.int x), some (.int (nI k)), some (.int (nI len))]) (fun _ => []) (fun k => arH len (ar_fl k f x)) ?_ 0 (Nat.zero_le _)
  intro k hI ih
  refine aw_go 2 7 [some (.ref 0), some (.int x), some (.int (nI k)), some (.int (nI len))] [.int (nI len), .int (nI k)] (arH len (ar_fl k f x)) rfl ?_
  refine aw_cmp_ge rfl (fun h7 => ?_) (fun h7 => ?_)
  · exact aw_vret rfl rfl ⟨rfl, by rw [show k = len from (by have h9 : ¬ k < len := (fun q => nI_ge q hl h7); omega)]⟩ rfl (Nat.le_refl _) (Nat.le_refl _) -- [] (arH len (ar_fl k f x))
  · have hk : k < len := Nat.not_le.mp fun q => h7 (nI_le q (by omega))
    refine aw_go 3 13 [some (.ref 0), some (.int x), some (.int (nI k)), some (.int (nI len))] [.int x, .int (nI k), .ref 0] (arH len (ar_fl k f x)) rfl ?_
    refine aw_iastN rfl rfl ⟨hk, hl⟩ ?_
    refine aw_go 2 5 [some (.ref 0), some (.int x), some (.int ((nI k) + 1)), some (.int (nI len))] [] (arH len (upd (ar_fl k f x) k x)) rfl ?_
    -- LOOP 5: [some (.ref 0), some (.int x), some (.int ((nI k) + 1)), some (.int (nI len))] [] (arH len (upd (ar_fl k f x) k x))
    exact aw_eq (by simp only [nI_succ]) rfl (by simp only [ar_fl_s]) (ih (k + 1) (by omega) (by omega))
set_option maxHeartbeats 2000000 in
set_option maxRecDepth 100000 in
theorem c_Ja_copyOf_I (l : Launch) (len n2 : Nat) (f : Nat → Int32) (h1 : len < n2) (h2 : n2 ≤ 20000) : Con l y_Ja_copyOf_I M_Ja_copyOf_I 1 60 [.ref 0, .int (nI n2)] (arH len f) 1 1 1 n2 (fun r h' => r = some (.ref 1) ∧ h' = [.inl (0, len, .inl f), .inl (0, n2, .inl (va_cpy f (fun _ => 0) 0 0 len))]) := by
  refine Con.ent ok_Ja_copyOf_I (by decide +kernel) rfl ?_
  intro p e s m args below meth c G μ0
  refine aw_go 3 3 [some (.ref 0), some (.int (nI n2)), none] [.int (nI len), .int (nI n2)] (arH len f) rfl ?_
  refine aw_cmp_ne rfl (fun h3 => ?_) (fun h3 => absurd h3 (fun q => by have := nI_inj (by omega) (by omega) q; omega))
  refine aw_go 1 15 [some (.ref 0), some (.int (nI n2)), none] [.int (nI n2)] (arH len f) rfl ?_
  refine aw_newa (N := n2) 0 rfl (by decide) rfl (nI_pos (by omega)) (nI_clamp (by omega)) (by omega) (by show 0 + 1 ≤ 1; omega) (by show 0 + n2 ≤ n2; omega) (by show 1 + 1 < 1000000; omega) ?_
  refine aw_go 8 25 [some (.ref 0), some (.int (nI n2)), some (.ref 1)] [.int (nI n2), .int (nI len), .int 0, .ref 1, .int 0, .ref 0] [.inl (0, len, .inl f), .inl (0, n2, .inl (fun _ => 0))] rfl ?_
  refine aw_min rfl (by decide +kernel) (Nat.le_of_ble_eq_true rfl) (Nat.le_of_ble_eq_true rfl) (Nat.le_of_ble_eq_true rfl) (by show 0 + 1 ≤ 1; omega) (by show 0 + n2 ≤ n2; omega) ?_
  rw [if_neg (nI_nlt (by omega) (by omega))]
  refine aw_copyi (N := len) rfl (by decide +kernel) rfl rfl (nI_pos (by omega)) (nI_clamp (by omega)) (Nat.le_refl _) (by omega) (Nat.le_of_ble_eq_true rfl) (Nat.le_of_ble_eq_true rfl) (Nat.le_of_ble_eq_true rfl) ?_
  refine aw_go 1 32 [some (.ref 0), some (.int (nI n2)), some (.ref 1)] [.ref 1] [.inl (0, len, .inl f), .inl (0, n2, .inl (va_cpy f (fun _ => 0) 0 0 len))] rfl ?_
  exact aw_aret rfl (Or.inr ⟨_, rfl⟩) rfl ⟨rfl, rfl⟩ rfl (by omega) (by omega)
set_option maxHeartbeats 2000000 in
set_option maxRecDepth 100000 in
theorem c_Ja_copyOf_J (l : Launch) (len n2 : Nat) (f : Nat → Int64) (h1 : len < n2) (h2 : n2 ≤ 20000) : Con l y_Ja_copyOf_J M_Ja_copyOf_J 1 60 [.ref 0, .int (nI n2)] (alH len f) 1 1 1 n2 (fun r h' => r = some (.ref 1) ∧ h' = [.inl (1, len, .inr (.inl f)), .inl (1, n2, .inr (.inl (va_cpy f (fun _ => 0) 0 0 len)))]) := by
  refine Con.ent ok_Ja_copyOf_J (by decide +kernel) rfl ?_
  intro p e s m args below meth c G μ0
  refine aw_go 3 3 [some (.ref 0), some (.int (nI n2)), none] [.int (nI len), .int (nI n2)] (alH len f) rfl ?_
  refine aw_cmp_ne rfl (fun h3 => ?_) (fun h3 => absurd h3 (fun q => by have := nI_inj (by omega) (by omega) q; omega))
  refine aw_go 1 15 [some (.ref 0), some (.int (nI n2)), none] [.int (nI n2)] (alH len f) rfl ?_
  refine aw_newa (N := n2) 1 rfl (by decide) rfl (nI_pos (by omega)) (nI_clamp (by omega)) (by omega) (by show 0 + 1 ≤ 1; omega) (by show 0 + n2 ≤ n2; omega) (by show 1 + 1 < 1000000; omega) ?_
  refine aw_go 8 25 [some (.ref 0), some (.int (nI n2)), some (.ref 1)] [.int (nI n2), .int (nI len), .int 0, .ref 1, .int 0, .ref 0] [.inl (1, len, .inr (.inl f)), .inl (1, n2, .inr (.inl (fun _ => 0)))] rfl ?_
  refine aw_min rfl (by decide +kernel) (Nat.le_of_ble_eq_true rfl) (Nat.le_of_ble_eq_true rfl) (Nat.le_of_ble_eq_true rfl) (by show 0 + 1 ≤ 1; omega) (by show 0 + n2 ≤ n2; omega) ?_
  rw [if_neg (nI_nlt (by omega) (by omega))]
  refine aw_copyl (N := len) rfl (by decide +kernel) rfl rfl (nI_pos (by omega)) (nI_clamp (by omega)) (Nat.le_refl _) (by omega) (Nat.le_of_ble_eq_true rfl) (Nat.le_of_ble_eq_true rfl) (Nat.le_of_ble_eq_true rfl) ?_
  refine aw_go 1 32 [some (.ref 0), some (.int (nI n2)), some (.ref 1)] [.ref 1] [.inl (1, len, .inr (.inl f)), .inl (1, n2, .inr (.inl (va_cpy f (fun _ => 0) 0 0 len)))] rfl ?_
  exact aw_aret rfl (Or.inr ⟨_, rfl⟩) rfl ⟨rfl, rfl⟩ rfl (by omega) (by omega)
