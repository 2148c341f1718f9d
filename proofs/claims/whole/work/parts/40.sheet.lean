/-! Sheet: a row of characters -/
def shH (cap : Nat) (len : Int32) (f : Nat → Int32) : am_H := [.inr (2, [.ref 1, .int len]), .inl (2, cap, .inl f)]
set_option maxHeartbeats 2000000 in
set_option maxRecDepth 100000 in
theorem c_Sh_clear (l : Launch) (cap : Nat) (len : Int32) (f : Nat → Int32) : Con l y_Sh_clear M_Sh_clear 0 0 [.ref 0] (shH cap len f) 2 0 0 0 (fun r h' => r = none ∧ h' = shH cap 0 f) := by
  refine Con.ent ok_Sh_clear (by decide +kernel) rfl ?_
  intro pA eA sA mA argsA belowA methA cA GA μA
  refine aw_go 3 5 [some (.ref 0)] [] (shH cap 0 f) rfl ?_
  exact aw_vret rfl rfl ⟨rfl, rfl⟩ rfl (Nat.le_refl _) (Nat.le_refl _) -- [] (shH cap 0 f)
set_option maxHeartbeats 2000000 in
set_option maxRecDepth 100000 in
theorem c_Sh_length (l : Launch) (cap : Nat) (len : Int32) (f : Nat → Int32) : Con l y_Sh_length M_Sh_length 0 0 [.ref 0] (shH cap len f) 2 0 0 0 (fun r h' => r = some (.int len) ∧ h' = shH cap len f) := by
  refine Con.ent ok_Sh_length (by decide +kernel) rfl ?_
  intro pA eA sA mA argsA belowA methA cA GA μA
  refine aw_go 2 4 [some (.ref 0)] [.int len] (shH cap len f) rfl ?_
  exact aw_iret rfl rfl rfl ⟨rfl, rfl⟩ rfl (Nat.le_refl _) (Nat.le_refl _) -- [.int len] (shH cap len f)
set_option maxHeartbeats 2000000 in
set_option maxRecDepth 100000 in
theorem c_Sh_isFull (l : Launch) (cap n : Nat) (f : Nat → Int32) (hc : cap < 2 ^ 31) (hn : n ≤ cap) : Con l y_Sh_isFull M_Sh_isFull 0 0 [.ref 0] (shH cap (nI n) f) 2 0 0 0 (fun r h' => r = some (.int (if n < cap then 0 else 1)) ∧ h' = shH cap (nI n) f) := by
  refine Con.ent ok_Sh_isFull (by decide +kernel) rfl ?_
  intro pA eA sA mA argsA belowA methA cA GA μA
  refine aw_go 5 9 [some (.ref 0)] [.int (nI cap), .int (nI n)] (shH cap (nI n) f) rfl ?_
  refine aw_cmp_lt rfl (fun h9 => ?_) (fun h9 => ?_)
  · refine aw_go 1 17 [some (.ref 0)] [.int 0] (shH cap (nI n) f) rfl ?_
    exact aw_iret rfl (by decide) rfl ⟨by rw [if_pos ((nI_ltI (by omega) hc).mp h9)], rfl⟩ rfl (Nat.le_refl _) (Nat.le_refl _) -- [.int 0] (shH cap (nI n) f)
  · refine aw_go 2 17 [some (.ref 0)] [.int 1] (shH cap (nI n) f) rfl ?_
    exact aw_iret rfl (by decide) rfl ⟨by rw [if_neg (fun q => h9 ((nI_ltI (by omega) hc).mpr q))], rfl⟩ rfl (Nat.le_refl _) (Nat.le_refl _) -- [.int 1] (shH cap (nI n) f)
set_option maxHeartbeats 2000000 in
set_option maxRecDepth 100000 in
theorem c_Sh_add (l : Launch) (cap n : Nat) (f : Nat → Int32) (ch : Int32) (hc : cap < 2 ^ 31) (hn : n ≤ cap) : Con l y_Sh_add M_Sh_add 0 0 [.ref 0, .int ch] (shH cap (nI n) f) 2 0 0 0 (fun r h' => r = none ∧ h' = if n < cap then shH cap (nI (n + 1)) (upd f n (vp_nar .char ch)) else shH cap (nI n) f) := by
  refine Con.ent ok_Sh_add (by decide +kernel) rfl ?_
  intro pA eA sA mA argsA belowA methA cA GA μA
  refine aw_go 5 9 [some (.ref 0), some (.int ch)] [.int (nI cap), .int (nI n)] (shH cap (nI n) f) rfl ?_
  refine aw_cmp_ge rfl (fun h9 => ?_) (fun h9 => ?_)
  · exact aw_vret rfl rfl ⟨rfl, by rw [if_neg (fun q => nI_ge q hc h9)]⟩ rfl (Nat.le_refl _) (Nat.le_refl _) -- [] (shH cap (nI n) f)
  · refine aw_go 5 21 [some (.ref 0), some (.int ch)] [.int ch, .int (nI n), .ref 1] (shH cap (nI n) f) rfl ?_
    refine aw_castN rfl rfl ⟨Nat.not_le.mp fun q => h9 (nI_le q (by omega)), hc⟩ ?_
    refine aw_go 6 32 [some (.ref 0), some (.int ch)] [] (shH cap ((nI n) + 1) (upd f n (vp_nar .char ch))) rfl ?_
    exact aw_vret rfl rfl ⟨rfl, by rw [if_pos (Nat.not_le.mp fun q => h9 (nI_le q (by omega))), nI_succ]⟩ rfl (Nat.le_refl _) (Nat.le_refl _) -- [] (shH cap ((nI n) + 1) (upd f n (vp_nar .char ch)))
set_option maxHeartbeats 2000000 in
set_option maxRecDepth 100000 in
theorem c_Sh_signAt (l : Launch) (cap n : Nat) (f : Nat → Int32) (k : Int32) (hc : cap < 2 ^ 31) (hn : n ≤ cap) : Con l y_Sh_signAt M_Sh_signAt 0 0 [.ref 0, .int k] (shH cap (nI n) f) 2 0 0 0 (fun r h' => r = some (.int (if k < 0 then -1 else if nI n ≤ k then -1 else f k.toNatClampNeg)) ∧ h' = shH cap (nI n) f) := by
  refine Con.ent ok_Sh_signAt (by decide +kernel) rfl ?_
  intro pA eA sA mA argsA belowA methA cA GA μA
  refine aw_go 1 1 [some (.ref 0), some (.int k)] [.int k] (shH cap (nI n) f) rfl ?_
  refine aw_if_lt rfl (fun h1 => ?_) (fun h1 => ?_)
  · refine aw_go 1 22 [some (.ref 0), some (.int k)] [.int (-1)] (shH cap (nI n) f) rfl ?_
    exact aw_iret rfl rfl rfl ⟨by rw [if_pos h1], rfl⟩ rfl (Nat.le_refl _) (Nat.le_refl _) -- [.int (-1)] (shH cap (nI n) f)
  · refine aw_go 3 9 [some (.ref 0), some (.int k)] [.int (nI n), .int k] (shH cap (nI n) f) rfl ?_
    refine aw_cmp_ge rfl (fun h9 => ?_) (fun h9 => ?_)
    · refine aw_go 1 22 [some (.ref 0), some (.int k)] [.int (-1)] (shH cap (nI n) f) rfl ?_
      exact aw_iret rfl rfl rfl ⟨by rw [if_neg h1, if_pos h9], rfl⟩ rfl (Nat.le_refl _) (Nat.le_refl _) -- [.int (-1)] (shH cap (nI n) f)
    · refine aw_go 3 17 [some (.ref 0), some (.int k)] [.int k, .ref 1] (shH cap (nI n) f) rfl ?_
      refine aw_cald rfl rfl (by obtain ⟨j, hj, rfl, -⟩ := pk_mu h1 h9 (by omega); exact vp_in_nI (by omega) hc) ?_
      refine aw_go 1 22 [some (.ref 0), some (.int k)] [.int (f k.toNatClampNeg)] (shH cap (nI n) f) rfl ?_
      exact aw_iret rfl rfl rfl ⟨by rw [if_neg h1, if_neg h9], rfl⟩ rfl (Nat.le_refl _) (Nat.le_refl _) -- [.int (f k.toNatClampNeg)] (shH cap (nI n) f)
