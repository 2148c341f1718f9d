/-! Signs -/
def sg_dig (ch : Nat) : Bool := Nat.ble 48 ch && Nat.ble ch 57
theorem sg_dig_iff {ch : Nat} : sg_dig ch = true ↔ 48 ≤ ch ∧ ch ≤ 57 := by
  simp only [sg_dig, Bool.and_eq_true]
  exact ⟨fun h => ⟨Nat.le_of_ble_eq_true h.1, Nat.le_of_ble_eq_true h.2⟩, fun h => ⟨Nat.ble_eq_true_of_le h.1, Nat.ble_eq_true_of_le h.2⟩⟩
/-- a character of an atom -/
def sg_at (ch : Nat) : Bool := match sg_ix ch with
  | some (_ + 1) => true
  | _ => false
theorem sg_ix_lt {ch j : Nat} (h : sg_ix ch = some j) : j < 47 := List.mem_range.mp (List.mem_of_find?_eq_some h)
theorem sg_at_n {ch : Nat} (h : oI (sg_ix ch) ≤ 0) : ¬ sg_at ch = true := by
  unfold sg_at
  cases hq : sg_ix ch with
  | none => simp
  | some j =>
    cases j with
    | zero => simp
    | succ j =>
      rw [hq] at h
      have := sg_ix_lt hq
      exact absurd h (nI_nle (by omega) (by omega))
theorem sg_at_p {ch : Nat} (h : ¬ oI (sg_ix ch) ≤ 0) : sg_at ch = true := by
  unfold sg_at
  cases hq : sg_ix ch with
  | none => rw [hq] at h; exact absurd (by decide) h
  | some j =>
    cases j with
    | zero => rw [hq] at h; exact absurd (by decide) h
    | succ j => rfl
theorem sg_ws {v ch j : Nat} (hj : sg_ix ch = some j) : ((lN v) * (Int32.toInt64 47)) + (Int32.toInt64 (oI (sg_ix ch))) = lN (v * 47 + j) := by
  have := sg_ix_lt hj
  rw [hj, show oI (some j) = nI j from rfl, nI_l (by omega), show Int32.toInt64 47 = lN 47 from nI_l (n := 47) (by omega), lN_mul, lN_add]
set_option maxHeartbeats 2000000 in
set_option maxRecDepth 100000 in
theorem c_Sg_isDigit (l : Launch) (ch : Nat) (hc : ch < 256) : Con l y_Sg_isDigit M_Sg_isDigit 0 0 [.int (nI ch)] ([] : am_H) 0 0 0 0 (fun r h' => r = some (.int (if sg_dig ch = true then 1 else 0)) ∧ h' = []) := by
  refine Con.ent ok_Sg_isDigit (by decide +kernel) rfl ?_
  intro pA eA sA mA argsA belowA methA cA GA μA
  refine aw_go 2 3 [some (.int (nI ch))] [.int 48, .int (nI ch)] [] rfl ?_
  refine aw_cmp_lt rfl (fun h3 => ?_) (fun h3 => ?_)
  · refine aw_go 1 17 [some (.int (nI ch))] [.int 0] [] rfl ?_
    exact aw_iret rfl (by decide) rfl ⟨by rw [if_neg (by rw [sg_dig_iff]; have := (nI_ltI (a := ch) (b := 48) (by omega) (by omega)).mp h3; omega)], rfl⟩ rfl (Nat.le_refl _) (Nat.le_refl _) -- [.int 0] []
  · refine aw_go 2 9 [some (.int (nI ch))] [.int 57, .int (nI ch)] [] rfl ?_
    refine aw_cmp_gt rfl (fun h9 => ?_) (fun h9 => ?_)
    · refine aw_go 1 17 [some (.int (nI ch))] [.int 0] [] rfl ?_
      exact aw_iret rfl (by decide) rfl ⟨by rw [if_neg (by rw [sg_dig_iff]; have := (nI_ltI (a := 57) (b := ch) (by omega) (by omega)).mp h9; omega)], rfl⟩ rfl (Nat.le_refl _) (Nat.le_refl _) -- [.int 0] []
    · refine aw_go 2 17 [some (.int (nI ch))] [.int 1] [] rfl ?_
      exact aw_iret rfl (by decide) rfl ⟨by rw [if_pos (by rw [sg_dig_iff]; exact ⟨Nat.not_lt.mp fun z => h3 (nI_lt (b := 48) z (by omega)), Nat.not_lt.mp fun z => h9 (nI_lt (a := 57) z (by omega))⟩)], rfl⟩ rfl (Nat.le_refl _) (Nat.le_refl _) -- [.int 1] []
set_option maxHeartbeats 2000000 in
set_option maxRecDepth 100000 in
theorem c_Sg_isOfAtom (l : Launch) (ch : Nat) (hc : ch < 256) : Con l y_Sg_isOfAtom M_Sg_isOfAtom 4 91 [.int (nI ch)] ([] : am_H) 0 0 0 0 (fun r h' => r = some (.int (if sg_at ch = true then 1 else 0)) ∧ h' = []) := by
  refine Con.ent ok_Sg_isOfAtom (by decide +kernel) rfl ?_
  intro pA eA sA mA argsA belowA methA cA GA μA
  refine aw_go 2 3 [some (.int (nI ch))] [.int (nI ch), .ref 2000000] [] rfl ?_
  refine aw_cT 0 (c_Js_indexOf_1 l ch hc) (by decide) rfl cw_Sg_11 rfl rfl rfl rfl (Nat.le_refl _) (Nat.le_refl _) (fun r h' hp => ?_)
  obtain ⟨rfl, rfl⟩ := hp
  refine aw_go 0 6 [some (.int (nI ch))] [.int (oI (sg_ix ch))] [] rfl ?_
  refine aw_if_le rfl (fun h6 => ?_) (fun h6 => ?_)
  · refine aw_go 1 14 [some (.int (nI ch))] [.int 0] [] rfl ?_
    exact aw_iret rfl (by decide) rfl ⟨by rw [if_neg (sg_at_n h6)], rfl⟩ rfl (Nat.le_refl _) (Nat.le_refl _) -- [.int 0] []
  · refine aw_go 2 14 [some (.int (nI ch))] [.int 1] [] rfl ?_
    exact aw_iret rfl (by decide) rfl ⟨by rw [if_pos (sg_at_p h6)], rfl⟩ rfl (Nat.le_refl _) (Nat.le_refl _) -- [.int 1] []
set_option maxHeartbeats 2000000 in
set_option maxRecDepth 100000 in
theorem c_Sg_withSign (l : Launch) (v ch j : Nat) (hc : ch < 256) (hj : sg_ix ch = some j) : Con l y_Sg_withSign M_Sg_withSign 4 91 [.long (lN v), .int (nI ch)] ([] : am_H) 0 0 0 0 (fun r h' => r = some (.long (lN (v * 47 + j))) ∧ h' = []) := by
  refine Con.ent ok_Sg_withSign (by decide +kernel) rfl ?_
  intro pA eA sA mA argsA belowA methA cA GA μA
  refine aw_go 2 3 [some (.long (lN v)), none, some (.int (nI ch))] [.ref 2000000, .long (lN v)] [] rfl ?_
  refine aw_cT 0 (c_Js_length_0 l) (by decide) rfl cw_Sg_17 rfl rfl rfl rfl (Nat.le_refl _) (Nat.le_refl _) (fun r h' hp => ?_)
  obtain ⟨rfl, rfl⟩ := hp
  refine aw_go 4 11 [some (.long (lN v)), none, some (.int (nI ch))] [.int (nI ch), .ref 2000000, .long ((lN v) * (Int32.toInt64 47))] [] rfl ?_
  refine aw_cT 0 (c_Js_indexOf_1 l ch hc) (by decide) rfl cw_Sg_11 rfl rfl rfl rfl (Nat.le_refl _) (Nat.le_refl _) (fun r h' hp => ?_)
  obtain ⟨rfl, rfl⟩ := hp
  refine aw_go 2 16 [some (.long (lN v)), none, some (.int (nI ch))] [.long (((lN v) * (Int32.toInt64 47)) + (Int32.toInt64 (oI (sg_ix ch))))] [] rfl ?_
  exact aw_lret rfl rfl ⟨by rw [sg_ws hj], rfl⟩ rfl (Nat.le_refl _) (Nat.le_refl _) -- [.long (((lN v) * (Int32.toInt64 47)) + (Int32.toInt64 (oI (sg_ix ch))))] []
set_option maxHeartbeats 2000000 in
set_option maxRecDepth 100000 in
theorem c_Sg_codeOf_nil (l : Launch)  : Con l y_Sg_codeOf M_Sg_codeOf 5 113 [.ref 2000002] ([] : am_H) 0 0 0 0 (fun r h' => r = some (.long (lN sy_nil)) ∧ h' = []) := by
  refine Con.ent ok_Sg_codeOf (by decide +kernel) rfl ?_
  intro pA eA sA mA argsA belowA methA cA GA μA
  refine aw_go 6 6 [some (.ref 2000002), some (.long 0), none, some (.int 0)] [.ref 2000002, .int 0] [] rfl ?_
  refine aw_cT 2 (c_Js_length_2 l) (by decide) rfl cw_Sg_17 rfl rfl rfl rfl (Nat.le_refl _) (Nat.le_refl _) (fun r h' hp => ?_)
  obtain ⟨rfl, rfl⟩ := hp
  refine aw_go 0 9 [some (.ref 2000002), some (.long 0), none, some (.int 0)] [.int 3, .int 0] [] rfl ?_
  refine aw_cmp_ge rfl (fun h9 => absurd h9 (by decide)) (fun h9 => ?_)
  refine aw_go 3 15 [some (.ref 2000002), some (.long 0), none, some (.int 0)] [.int 0, .ref 2000002, .long 0] [] rfl ?_
  refine aw_cT 2 (c_Js_charAt_2 l 0 (by decide)) (by decide) rfl cw_Sg_21 rfl rfl rfl rfl (Nat.le_refl _) (Nat.le_refl _) (fun r h' hp => ?_)
  obtain ⟨rfl, rfl⟩ := hp
  refine aw_go 0 18 [some (.ref 2000002), some (.long 0), none, some (.int 0)] [.int (nI (am_ch 2 0)), .long 0] [] rfl ?_
  refine aw_cS [] (c_Sg_withSign l (0) (am_ch 2 0) 14 (am_ch_lt 2 (by decide) 0 (by decide)) (by decide +kernel)) rfl cw_Sg_25 rfl rfl rfl rfl (Nat.le_refl _) (Nat.le_refl _) (fun r h' hp => ?_)
  obtain ⟨rfl, rfl⟩ := hp
  refine aw_go 5 6 [some (.ref 2000002), some (.long (lN (0 * 47 + 14))), none, some (.int 1)] [.ref 2000002, .int 1] [] rfl ?_
  refine aw_cT 2 (c_Js_length_2 l) (by decide) rfl cw_Sg_17 rfl rfl rfl rfl (Nat.le_refl _) (Nat.le_refl _) (fun r h' hp => ?_)
  obtain ⟨rfl, rfl⟩ := hp
  refine aw_go 0 9 [some (.ref 2000002), some (.long (lN (0 * 47 + 14))), none, some (.int 1)] [.int 3, .int 1] [] rfl ?_
  refine aw_cmp_ge rfl (fun h9 => absurd h9 (by decide)) (fun h9 => ?_)
  refine aw_go 3 15 [some (.ref 2000002), some (.long (lN (0 * 47 + 14))), none, some (.int 1)] [.int 1, .ref 2000002, .long (lN (0 * 47 + 14))] [] rfl ?_
  refine aw_cT 2 (c_Js_charAt_2 l 1 (by decide)) (by decide) rfl cw_Sg_21 rfl rfl rfl rfl (Nat.le_refl _) (Nat.le_refl _) (fun r h' hp => ?_)
  obtain ⟨rfl, rfl⟩ := hp
  refine aw_go 0 18 [some (.ref 2000002), some (.long (lN (0 * 47 + 14))), none, some (.int 1)] [.int (nI (am_ch 2 1)), .long (lN (0 * 47 + 14))] [] rfl ?_
  refine aw_cS [] (c_Sg_withSign l (0 * 47 + 14) (am_ch 2 1) 9 (am_ch_lt 2 (by decide) 1 (by decide)) (by decide +kernel)) rfl cw_Sg_25 rfl rfl rfl rfl (Nat.le_refl _) (Nat.le_refl _) (fun r h' hp => ?_)
  obtain ⟨rfl, rfl⟩ := hp
  refine aw_go 5 6 [some (.ref 2000002), some (.long (lN ((0 * 47 + 14) * 47 + 9))), none, some (.int 2)] [.ref 2000002, .int 2] [] rfl ?_
  refine aw_cT 2 (c_Js_length_2 l) (by decide) rfl cw_Sg_17 rfl rfl rfl rfl (Nat.le_refl _) (Nat.le_refl _) (fun r h' hp => ?_)
  obtain ⟨rfl, rfl⟩ := hp
  refine aw_go 0 9 [some (.ref 2000002), some (.long (lN ((0 * 47 + 14) * 47 + 9))), none, some (.int 2)] [.int 3, .int 2] [] rfl ?_
  refine aw_cmp_ge rfl (fun h9 => absurd h9 (by decide)) (fun h9 => ?_)
  refine aw_go 3 15 [some (.ref 2000002), some (.long (lN ((0 * 47 + 14) * 47 + 9))), none, some (.int 2)] [.int 2, .ref 2000002, .long (lN ((0 * 47 + 14) * 47 + 9))] [] rfl ?_
  refine aw_cT 2 (c_Js_charAt_2 l 2 (by decide)) (by decide) rfl cw_Sg_21 rfl rfl rfl rfl (Nat.le_refl _) (Nat.le_refl _) (fun r h' hp => ?_)
  obtain ⟨rfl, rfl⟩ := hp
  refine aw_go 0 18 [some (.ref 2000002), some (.long (lN ((0 * 47 + 14) * 47 + 9))), none, some (.int 2)] [.int (nI (am_ch 2 2)), .long (lN ((0 * 47 + 14) * 47 + 9))] [] rfl ?_
  refine aw_cS [] (c_Sg_withSign l ((0 * 47 + 14) * 47 + 9) (am_ch 2 2) 12 (am_ch_lt 2 (by decide) 2 (by decide)) (by decide +kernel)) rfl cw_Sg_25 rfl rfl rfl rfl (Nat.le_refl _) (Nat.le_refl _) (fun r h' hp => ?_)
  obtain ⟨rfl, rfl⟩ := hp
  refine aw_go 5 6 [some (.ref 2000002), some (.long (lN (((0 * 47 + 14) * 47 + 9) * 47 + 12))), none, some (.int 3)] [.ref 2000002, .int 3] [] rfl ?_
  refine aw_cT 2 (c_Js_length_2 l) (by decide) rfl cw_Sg_17 rfl rfl rfl rfl (Nat.le_refl _) (Nat.le_refl _) (fun r h' hp => ?_)
  obtain ⟨rfl, rfl⟩ := hp
  refine aw_go 0 9 [some (.ref 2000002), some (.long (lN (((0 * 47 + 14) * 47 + 9) * 47 + 12))), none, some (.int 3)] [.int 3, .int 3] [] rfl ?_
  refine aw_cmp_ge rfl (fun h9 => ?_) (fun h9 => absurd h9 (by decide))
  refine aw_go 1 29 [some (.ref 2000002), some (.long (lN (((0 * 47 + 14) * 47 + 9) * 47 + 12))), none, some (.int 3)] [.long (lN (((0 * 47 + 14) * 47 + 9) * 47 + 12))] [] rfl ?_
  exact aw_lret rfl rfl ⟨by decide, rfl⟩ rfl (Nat.le_refl _) (Nat.le_refl _) -- [.long (lN (((0 * 47 + 14) * 47 + 9) * 47 + 12))] []
set_option maxHeartbeats 2000000 in
set_option maxRecDepth 100000 in
theorem c_Sg_codeOf_quote (l : Launch)  : Con l y_Sg_codeOf M_Sg_codeOf 5 113 [.ref 2000003] ([] : am_H) 0 0 0 0 (fun r h' => r = some (.long (lN sy_quote)) ∧ h' = []) := by
  refine Con.ent ok_Sg_codeOf (by decide +kernel) rfl ?_
  intro pA eA sA mA argsA belowA methA cA GA μA
  refine aw_go 6 6 [some (.ref 2000003), some (.long 0), none, some (.int 0)] [.ref 2000003, .int 0] [] rfl ?_
  refine aw_cT 3 (c_Js_length_3 l) (by decide) rfl cw_Sg_17 rfl rfl rfl rfl (Nat.le_refl _) (Nat.le_refl _) (fun r h' hp => ?_)
  obtain ⟨rfl, rfl⟩ := hp
  refine aw_go 0 9 [some (.ref 2000003), some (.long 0), none, some (.int 0)] [.int 5, .int 0] [] rfl ?_
  refine aw_cmp_ge rfl (fun h9 => absurd h9 (by decide)) (fun h9 => ?_)
  refine aw_go 3 15 [some (.ref 2000003), some (.long 0), none, some (.int 0)] [.int 0, .ref 2000003, .long 0] [] rfl ?_
  refine aw_cT 3 (c_Js_charAt_3 l 0 (by decide)) (by decide) rfl cw_Sg_21 rfl rfl rfl rfl (Nat.le_refl _) (Nat.le_refl _) (fun r h' hp => ?_)
  obtain ⟨rfl, rfl⟩ := hp
  refine aw_go 0 18 [some (.ref 2000003), some (.long 0), none, some (.int 0)] [.int (nI (am_ch 3 0)), .long 0] [] rfl ?_
  refine aw_cS [] (c_Sg_withSign l (0) (am_ch 3 0) 17 (am_ch_lt 3 (by decide) 0 (by decide)) (by decide +kernel)) rfl cw_Sg_25 rfl rfl rfl rfl (Nat.le_refl _) (Nat.le_refl _) (fun r h' hp => ?_)
  obtain ⟨rfl, rfl⟩ := hp
  refine aw_go 5 6 [some (.ref 2000003), some (.long (lN (0 * 47 + 17))), none, some (.int 1)] [.ref 2000003, .int 1] [] rfl ?_
  refine aw_cT 3 (c_Js_length_3 l) (by decide) rfl cw_Sg_17 rfl rfl rfl rfl (Nat.le_refl _) (Nat.le_refl _) (fun r h' hp => ?_)
  obtain ⟨rfl, rfl⟩ := hp
  refine aw_go 0 9 [some (.ref 2000003), some (.long (lN (0 * 47 + 17))), none, some (.int 1)] [.int 5, .int 1] [] rfl ?_
  refine aw_cmp_ge rfl (fun h9 => absurd h9 (by decide)) (fun h9 => ?_)
  refine aw_go 3 15 [some (.ref 2000003), some (.long (lN (0 * 47 + 17))), none, some (.int 1)] [.int 1, .ref 2000003, .long (lN (0 * 47 + 17))] [] rfl ?_
  refine aw_cT 3 (c_Js_charAt_3 l 1 (by decide)) (by decide) rfl cw_Sg_21 rfl rfl rfl rfl (Nat.le_refl _) (Nat.le_refl _) (fun r h' hp => ?_)
  obtain ⟨rfl, rfl⟩ := hp
  refine aw_go 0 18 [some (.ref 2000003), some (.long (lN (0 * 47 + 17))), none, some (.int 1)] [.int (nI (am_ch 3 1)), .long (lN (0 * 47 + 17))] [] rfl ?_
  refine aw_cS [] (c_Sg_withSign l (0 * 47 + 17) (am_ch 3 1) 21 (am_ch_lt 3 (by decide) 1 (by decide)) (by decide +kernel)) rfl cw_Sg_25 rfl rfl rfl rfl (Nat.le_refl _) (Nat.le_refl _) (fun r h' hp => ?_)
  obtain ⟨rfl, rfl⟩ := hp
  refine aw_go 5 6 [some (.ref 2000003), some (.long (lN ((0 * 47 + 17) * 47 + 21))), none, some (.int 2)] [.ref 2000003, .int 2] [] rfl ?_
  refine aw_cT 3 (c_Js_length_3 l) (by decide) rfl cw_Sg_17 rfl rfl rfl rfl (Nat.le_refl _) (Nat.le_refl _) (fun r h' hp => ?_)
  obtain ⟨rfl, rfl⟩ := hp
  refine aw_go 0 9 [some (.ref 2000003), some (.long (lN ((0 * 47 + 17) * 47 + 21))), none, some (.int 2)] [.int 5, .int 2] [] rfl ?_
  refine aw_cmp_ge rfl (fun h9 => absurd h9 (by decide)) (fun h9 => ?_)
  refine aw_go 3 15 [some (.ref 2000003), some (.long (lN ((0 * 47 + 17) * 47 + 21))), none, some (.int 2)] [.int 2, .ref 2000003, .long (lN ((0 * 47 + 17) * 47 + 21))] [] rfl ?_
  refine aw_cT 3 (c_Js_charAt_3 l 2 (by decide)) (by decide) rfl cw_Sg_21 rfl rfl rfl rfl (Nat.le_refl _) (Nat.le_refl _) (fun r h' hp => ?_)
  obtain ⟨rfl, rfl⟩ := hp
  refine aw_go 0 18 [some (.ref 2000003), some (.long (lN ((0 * 47 + 17) * 47 + 21))), none, some (.int 2)] [.int (nI (am_ch 3 2)), .long (lN ((0 * 47 + 17) * 47 + 21))] [] rfl ?_
  refine aw_cS [] (c_Sg_withSign l ((0 * 47 + 17) * 47 + 21) (am_ch 3 2) 15 (am_ch_lt 3 (by decide) 2 (by decide)) (by decide +kernel)) rfl cw_Sg_25 rfl rfl rfl rfl (Nat.le_refl _) (Nat.le_refl _) (fun r h' hp => ?_)
  obtain ⟨rfl, rfl⟩ := hp
  refine aw_go 5 6 [some (.ref 2000003), some (.long (lN (((0 * 47 + 17) * 47 + 21) * 47 + 15))), none, some (.int 3)] [.ref 2000003, .int 3] [] rfl ?_
  refine aw_cT 3 (c_Js_length_3 l) (by decide) rfl cw_Sg_17 rfl rfl rfl rfl (Nat.le_refl _) (Nat.le_refl _) (fun r h' hp => ?_)
  obtain ⟨rfl, rfl⟩ := hp
  refine aw_go 0 9 [some (.ref 2000003), some (.long (lN (((0 * 47 + 17) * 47 + 21) * 47 + 15))), none, some (.int 3)] [.int 5, .int 3] [] rfl ?_
  refine aw_cmp_ge rfl (fun h9 => absurd h9 (by decide)) (fun h9 => ?_)
  refine aw_go 3 15 [some (.ref 2000003), some (.long (lN (((0 * 47 + 17) * 47 + 21) * 47 + 15))), none, some (.int 3)] [.int 3, .ref 2000003, .long (lN (((0 * 47 + 17) * 47 + 21) * 47 + 15))] [] rfl ?_
  refine aw_cT 3 (c_Js_charAt_3 l 3 (by decide)) (by decide) rfl cw_Sg_21 rfl rfl rfl rfl (Nat.le_refl _) (Nat.le_refl _) (fun r h' hp => ?_)
  obtain ⟨rfl, rfl⟩ := hp
  refine aw_go 0 18 [some (.ref 2000003), some (.long (lN (((0 * 47 + 17) * 47 + 21) * 47 + 15))), none, some (.int 3)] [.int (nI (am_ch 3 3)), .long (lN (((0 * 47 + 17) * 47 + 21) * 47 + 15))] [] rfl ?_
  refine aw_cS [] (c_Sg_withSign l (((0 * 47 + 17) * 47 + 21) * 47 + 15) (am_ch 3 3) 20 (am_ch_lt 3 (by decide) 3 (by decide)) (by decide +kernel)) rfl cw_Sg_25 rfl rfl rfl rfl (Nat.le_refl _) (Nat.le_refl _) (fun r h' hp => ?_)
  obtain ⟨rfl, rfl⟩ := hp
  refine aw_go 5 6 [some (.ref 2000003), some (.long (lN ((((0 * 47 + 17) * 47 + 21) * 47 + 15) * 47 + 20))), none, some (.int 4)] [.ref 2000003, .int 4] [] rfl ?_
  refine aw_cT 3 (c_Js_length_3 l) (by decide) rfl cw_Sg_17 rfl rfl rfl rfl (Nat.le_refl _) (Nat.le_refl _) (fun r h' hp => ?_)
  obtain ⟨rfl, rfl⟩ := hp
  refine aw_go 0 9 [some (.ref 2000003), some (.long (lN ((((0 * 47 + 17) * 47 + 21) * 47 + 15) * 47 + 20))), none, some (.int 4)] [.int 5, .int 4] [] rfl ?_
  refine aw_cmp_ge rfl (fun h9 => absurd h9 (by decide)) (fun h9 => ?_)
  refine aw_go 3 15 [some (.ref 2000003), some (.long (lN ((((0 * 47 + 17) * 47 + 21) * 47 + 15) * 47 + 20))), none, some (.int 4)] [.int 4, .ref 2000003, .long (lN ((((0 * 47 + 17) * 47 + 21) * 47 + 15) * 47 + 20))] [] rfl ?_
  refine aw_cT 3 (c_Js_charAt_3 l 4 (by decide)) (by decide) rfl cw_Sg_21 rfl rfl rfl rfl (Nat.le_refl _) (Nat.le_refl _) (fun r h' hp => ?_)
  obtain ⟨rfl, rfl⟩ := hp
  refine aw_go 0 18 [some (.ref 2000003), some (.long (lN ((((0 * 47 + 17) * 47 + 21) * 47 + 15) * 47 + 20))), none, some (.int 4)] [.int (nI (am_ch 3 4)), .long (lN ((((0 * 47 + 17) * 47 + 21) * 47 + 15) * 47 + 20))] [] rfl ?_
  refine aw_cS [] (c_Sg_withSign l ((((0 * 47 + 17) * 47 + 21) * 47 + 15) * 47 + 20) (am_ch 3 4) 5 (am_ch_lt 3 (by decide) 4 (by decide)) (by decide +kernel)) rfl cw_Sg_25 rfl rfl rfl rfl (Nat.le_refl _) (Nat.le_refl _) (fun r h' hp => ?_)
  obtain ⟨rfl, rfl⟩ := hp
  refine aw_go 5 6 [some (.ref 2000003), some (.long (lN (((((0 * 47 + 17) * 47 + 21) * 47 + 15) * 47 + 20) * 47 + 5))), none, some (.int 5)] [.ref 2000003, .int 5] [] rfl ?_
  refine aw_cT 3 (c_Js_length_3 l) (by decide) rfl cw_Sg_17 rfl rfl rfl rfl (Nat.le_refl _) (Nat.le_refl _) (fun r h' hp => ?_)
  obtain ⟨rfl, rfl⟩ := hp
  refine aw_go 0 9 [some (.ref 2000003), some (.long (lN (((((0 * 47 + 17) * 47 + 21) * 47 + 15) * 47 + 20) * 47 + 5))), none, some (.int 5)] [.int 5, .int 5] [] rfl ?_
  refine aw_cmp_ge rfl (fun h9 => ?_) (fun h9 => absurd h9 (by decide))
  refine aw_go 1 29 [some (.ref 2000003), some (.long (lN (((((0 * 47 + 17) * 47 + 21) * 47 + 15) * 47 + 20) * 47 + 5))), none, some (.int 5)] [.long (lN (((((0 * 47 + 17) * 47 + 21) * 47 + 15) * 47 + 20) * 47 + 5))] [] rfl ?_
  exact aw_lret rfl rfl ⟨by decide, rfl⟩ rfl (Nat.le_refl _) (Nat.le_refl _) -- [.long (lN (((((0 * 47 + 17) * 47 + 21) * 47 + 15) * 47 + 20) * 47 + 5))] []
