/-! java.lang.String over the literals -/
/-- character j of literal i -/
def am_ch (i j : Nat) : Nat := ((am_byt4.getD i []).getD j 0).toBitVec.toNat
theorem am_ch_all : ∀ i, i < 4 → ∀ j, j < am_len4.getD i 0 → (Int32.toUInt32 ((am_byt4.getD i []).getD j 0 &&& 255) % 65536).toInt32 = nI (am_ch i j) ∧ am_ch i j < 128 ∧ (am_byt4.getD i []).getD j 0 = nI (am_ch i j) := by decide +kernel
theorem am_ch_eq (i : Nat) (hi : i < 4) (j : Nat) (hj : j < am_len4.getD i 0) : (Int32.toUInt32 ((am_byt4.getD i []).getD j 0 &&& 255) % 65536).toInt32 = nI (am_ch i j) := (am_ch_all i hi j hj).1
theorem am_ch_lt (i : Nat) (hi : i < 4) (j : Nat) (hj : j < am_len4.getD i 0) : am_ch i j < 256 := by have := (am_ch_all i hi j hj).2.1; omega
/-- where a character stands in the row of symbols' characters -/
def sg_ix (ch : Nat) : Option Nat := (List.range 47).find? (fun j => Nat.beq (am_ch 0 j) ch)
theorem sg_own : ∀ k, k < 47 → sg_ix (am_ch 0 k) = some k := by decide +kernel
theorem sg_no {ch : Nat} (h : ∀ j, j < 47 → am_ch 0 j ≠ ch) : sg_ix ch = none := by
  unfold sg_ix
  rw [List.find?_eq_none]
  intro j hj hb
  exact h j (List.mem_range.mp hj) (Nat.eq_of_beq_eq_true hb)
theorem sg_b8 : ∀ ch, ch < 256 → (Int32.toInt8 (nI ch)).toInt32 = (if ch < 128 then nI ch else nI ch - 256) := by decide +kernel
theorem sg_hit {k ch : Nat} (hk : k < 47) (hc : ch < 256) (h : (am_byt4.getD 0 []).getD k 0 = (Int32.toInt8 (nI ch)).toInt32) : sg_ix ch = some k := by
  have h1 := am_ch_all 0 (by decide) k hk
  rw [h1.2.2, sg_b8 ch hc] at h
  have hh : ∀ z, z < 128 → ∀ c2, c2 < 256 → nI z = (if c2 < 128 then nI c2 else nI c2 - 256) → z = c2 := by decide +kernel
  rw [← hh _ h1.2.1 ch hc h]
  exact sg_own k hk
theorem sg_miss {k ch : Nat} (hk : k < 47) (hc : ch < 256) (h : ¬ (am_byt4.getD 0 []).getD k 0 = (Int32.toInt8 (nI ch)).toInt32) : am_ch 0 k ≠ ch := by
  intro e
  have h1 := am_ch_all 0 (by decide) k hk
  refine h ?_
  rw [h1.2.2, e, sg_b8 ch hc, if_pos (by rw [← e]; exact h1.2.1)]
set_option maxHeartbeats 2000000 in
set_option maxRecDepth 100000 in
theorem c_Js_isLatin1_0 (l : Launch)  : Con l y_Js_isLatin1 M_Js_isLatin1 0 0 [.ref 2000000] ([] : am_H) 0 0 0 0 (fun r h' => r = some (.int 1) ∧ h' = []) := by
  refine Con.ent ok_Js_isLatin1 (by decide +kernel) rfl ?_
  intro pA eA sA mA argsA belowA methA cA GA μA
  refine aw_comp rfl (am_mem_in (i := 102) (by decide +kernel)) ?_
  refine aw_if_eq rfl (fun h3 => absurd h3 (by decide)) (fun h3 => ?_)
  refine aw_go 1 7 [some (.ref 2000000)] [.ref 2000000] [] rfl ?_
  refine aw_scod 0 (by decide) rfl (am_mem_in (i := 1050) (by decide +kernel)) ?_
  refine aw_if_ne rfl (fun h10 => absurd h10 (by decide)) (fun h10 => ?_)
  refine aw_go 2 18 [some (.ref 2000000)] [.int 1] [] rfl ?_
  exact aw_iret rfl (by decide) rfl ⟨rfl, rfl⟩ rfl (Nat.le_refl _) (Nat.le_refl _) -- [.int 1] []
set_option maxHeartbeats 2000000 in
set_option maxRecDepth 100000 in
theorem c_Js_coder_0 (l : Launch)  : Con l y_Js_coder M_Js_coder 0 0 [.ref 2000000] ([] : am_H) 0 0 0 0 (fun r h' => r = some (.int 0) ∧ h' = []) := by
  refine Con.ent ok_Js_coder (by decide +kernel) rfl ?_
  intro pA eA sA mA argsA belowA methA cA GA μA
  refine aw_comp rfl (am_mem_in (i := 102) (by decide +kernel)) ?_
  refine aw_if_eq rfl (fun h3 => absurd h3 (by decide)) (fun h3 => ?_)
  refine aw_go 1 7 [some (.ref 2000000)] [.ref 2000000] [] rfl ?_
  refine aw_scod 0 (by decide) rfl (am_mem_in (i := 1050) (by decide +kernel)) ?_
  refine aw_go 1 14 [some (.ref 2000000)] [.int 0] [] rfl ?_
  exact aw_iret rfl (by decide) rfl ⟨rfl, rfl⟩ rfl (Nat.le_refl _) (Nat.le_refl _) -- [.int 0] []
set_option maxHeartbeats 2000000 in
set_option maxRecDepth 100000 in
theorem c_Js_length_0 (l : Launch)  : Con l y_Js_length M_Js_length 1 20 [.ref 2000000] ([] : am_H) 0 0 0 0 (fun r h' => r = some (.int 47) ∧ h' = []) := by
  refine Con.ent ok_Js_length (by decide +kernel) rfl ?_
  intro pA eA sA mA argsA belowA methA cA GA μA
  refine aw_go 1 1 [some (.ref 2000000)] [.ref 2000000] [] rfl ?_
  refine aw_sval 0 (by decide) rfl (am_mem_in (i := 1049) (by decide +kernel)) ?_
  refine aw_slen 0 (by decide) rfl ?_
  refine aw_go 1 6 [some (.ref 2000000)] [.ref 2000000, .int 47] [] rfl ?_
  refine aw_cT 0 (c_Js_coder_0 l) (by decide) rfl cw_Js_335 rfl rfl rfl rfl (Nat.le_refl _) (Nat.le_refl _) (fun r h' hp => ?_)
  obtain ⟨rfl, rfl⟩ := hp
  refine aw_go 1 10 [some (.ref 2000000)] [.int ((47 : Int32) >>> (0 &&& 31))] [] rfl ?_
  exact aw_iret rfl rfl rfl ⟨by decide, rfl⟩ rfl (Nat.le_refl _) (Nat.le_refl _) -- [.int ((47 : Int32) >>> (0 &&& 31))] []
set_option maxHeartbeats 2000000 in
set_option maxRecDepth 100000 in
theorem c_Js_isLatin1_1 (l : Launch)  : Con l y_Js_isLatin1 M_Js_isLatin1 0 0 [.ref 2000001] ([] : am_H) 0 0 0 0 (fun r h' => r = some (.int 1) ∧ h' = []) := by
  refine Con.ent ok_Js_isLatin1 (by decide +kernel) rfl ?_
  intro pA eA sA mA argsA belowA methA cA GA μA
  refine aw_comp rfl (am_mem_in (i := 102) (by decide +kernel)) ?_
  refine aw_if_eq rfl (fun h3 => absurd h3 (by decide)) (fun h3 => ?_)
  refine aw_go 1 7 [some (.ref 2000001)] [.ref 2000001] [] rfl ?_
  refine aw_scod 1 (by decide) rfl (am_mem_in (i := 1050) (by decide +kernel)) ?_
  refine aw_if_ne rfl (fun h10 => absurd h10 (by decide)) (fun h10 => ?_)
  refine aw_go 2 18 [some (.ref 2000001)] [.int 1] [] rfl ?_
  exact aw_iret rfl (by decide) rfl ⟨rfl, rfl⟩ rfl (Nat.le_refl _) (Nat.le_refl _) -- [.int 1] []
set_option maxHeartbeats 2000000 in
set_option maxRecDepth 100000 in
theorem c_Js_coder_1 (l : Launch)  : Con l y_Js_coder M_Js_coder 0 0 [.ref 2000001] ([] : am_H) 0 0 0 0 (fun r h' => r = some (.int 0) ∧ h' = []) := by
  refine Con.ent ok_Js_coder (by decide +kernel) rfl ?_
  intro pA eA sA mA argsA belowA methA cA GA μA
  refine aw_comp rfl (am_mem_in (i := 102) (by decide +kernel)) ?_
  refine aw_if_eq rfl (fun h3 => absurd h3 (by decide)) (fun h3 => ?_)
  refine aw_go 1 7 [some (.ref 2000001)] [.ref 2000001] [] rfl ?_
  refine aw_scod 1 (by decide) rfl (am_mem_in (i := 1050) (by decide +kernel)) ?_
  refine aw_go 1 14 [some (.ref 2000001)] [.int 0] [] rfl ?_
  exact aw_iret rfl (by decide) rfl ⟨rfl, rfl⟩ rfl (Nat.le_refl _) (Nat.le_refl _) -- [.int 0] []
set_option maxHeartbeats 2000000 in
set_option maxRecDepth 100000 in
theorem c_Js_length_1 (l : Launch)  : Con l y_Js_length M_Js_length 1 20 [.ref 2000001] ([] : am_H) 0 0 0 0 (fun r h' => r = some (.int 10) ∧ h' = []) := by
  refine Con.ent ok_Js_length (by decide +kernel) rfl ?_
  intro pA eA sA mA argsA belowA methA cA GA μA
  refine aw_go 1 1 [some (.ref 2000001)] [.ref 2000001] [] rfl ?_
  refine aw_sval 1 (by decide) rfl (am_mem_in (i := 1049) (by decide +kernel)) ?_
  refine aw_slen 1 (by decide) rfl ?_
  refine aw_go 1 6 [some (.ref 2000001)] [.ref 2000001, .int 10] [] rfl ?_
  refine aw_cT 1 (c_Js_coder_1 l) (by decide) rfl cw_Js_335 rfl rfl rfl rfl (Nat.le_refl _) (Nat.le_refl _) (fun r h' hp => ?_)
  obtain ⟨rfl, rfl⟩ := hp
  refine aw_go 1 10 [some (.ref 2000001)] [.int ((10 : Int32) >>> (0 &&& 31))] [] rfl ?_
  exact aw_iret rfl rfl rfl ⟨by decide, rfl⟩ rfl (Nat.le_refl _) (Nat.le_refl _) -- [.int ((10 : Int32) >>> (0 &&& 31))] []
set_option maxHeartbeats 2000000 in
set_option maxRecDepth 100000 in
theorem c_Js_isLatin1_2 (l : Launch)  : Con l y_Js_isLatin1 M_Js_isLatin1 0 0 [.ref 2000002] ([] : am_H) 0 0 0 0 (fun r h' => r = some (.int 1) ∧ h' = []) := by
  refine Con.ent ok_Js_isLatin1 (by decide +kernel) rfl ?_
  intro pA eA sA mA argsA belowA methA cA GA μA
  refine aw_comp rfl (am_mem_in (i := 102) (by decide +kernel)) ?_
  refine aw_if_eq rfl (fun h3 => absurd h3 (by decide)) (fun h3 => ?_)
  refine aw_go 1 7 [some (.ref 2000002)] [.ref 2000002] [] rfl ?_
  refine aw_scod 2 (by decide) rfl (am_mem_in (i := 1050) (by decide +kernel)) ?_
  refine aw_if_ne rfl (fun h10 => absurd h10 (by decide)) (fun h10 => ?_)
  refine aw_go 2 18 [some (.ref 2000002)] [.int 1] [] rfl ?_
  exact aw_iret rfl (by decide) rfl ⟨rfl, rfl⟩ rfl (Nat.le_refl _) (Nat.le_refl _) -- [.int 1] []
set_option maxHeartbeats 2000000 in
set_option maxRecDepth 100000 in
theorem c_Js_coder_2 (l : Launch)  : Con l y_Js_coder M_Js_coder 0 0 [.ref 2000002] ([] : am_H) 0 0 0 0 (fun r h' => r = some (.int 0) ∧ h' = []) := by
  refine Con.ent ok_Js_coder (by decide +kernel) rfl ?_
  intro pA eA sA mA argsA belowA methA cA GA μA
  refine aw_comp rfl (am_mem_in (i := 102) (by decide +kernel)) ?_
  refine aw_if_eq rfl (fun h3 => absurd h3 (by decide)) (fun h3 => ?_)
  refine aw_go 1 7 [some (.ref 2000002)] [.ref 2000002] [] rfl ?_
  refine aw_scod 2 (by decide) rfl (am_mem_in (i := 1050) (by decide +kernel)) ?_
  refine aw_go 1 14 [some (.ref 2000002)] [.int 0] [] rfl ?_
  exact aw_iret rfl (by decide) rfl ⟨rfl, rfl⟩ rfl (Nat.le_refl _) (Nat.le_refl _) -- [.int 0] []
set_option maxHeartbeats 2000000 in
set_option maxRecDepth 100000 in
theorem c_Js_length_2 (l : Launch)  : Con l y_Js_length M_Js_length 1 20 [.ref 2000002] ([] : am_H) 0 0 0 0 (fun r h' => r = some (.int 3) ∧ h' = []) := by
  refine Con.ent ok_Js_length (by decide +kernel) rfl ?_
  intro pA eA sA mA argsA belowA methA cA GA μA
  refine aw_go 1 1 [some (.ref 2000002)] [.ref 2000002] [] rfl ?_
  refine aw_sval 2 (by decide) rfl (am_mem_in (i := 1049) (by decide +kernel)) ?_
  refine aw_slen 2 (by decide) rfl ?_
  refine aw_go 1 6 [some (.ref 2000002)] [.ref 2000002, .int 3] [] rfl ?_
  refine aw_cT 2 (c_Js_coder_2 l) (by decide) rfl cw_Js_335 rfl rfl rfl rfl (Nat.le_refl _) (Nat.le_refl _) (fun r h' hp => ?_)
  obtain ⟨rfl, rfl⟩ := hp
  refine aw_go 1 10 [some (.ref 2000002)] [.int ((3 : Int32) >>> (0 &&& 31))] [] rfl ?_
  exact aw_iret rfl rfl rfl ⟨by decide, rfl⟩ rfl (Nat.le_refl _) (Nat.le_refl _) -- [.int ((3 : Int32) >>> (0 &&& 31))] []
set_option maxHeartbeats 2000000 in
set_option maxRecDepth 100000 in
theorem c_Js_isLatin1_3 (l : Launch)  : Con l y_Js_isLatin1 M_Js_isLatin1 0 0 [.ref 2000003] ([] : am_H) 0 0 0 0 (fun r h' => r = some (.int 1) ∧ h' = []) := by
  refine Con.ent ok_Js_isLatin1 (by decide +kernel) rfl ?_
  intro pA eA sA mA argsA belowA methA cA GA μA
  refine aw_comp rfl (am_mem_in (i := 102) (by decide +kernel)) ?_
  refine aw_if_eq rfl (fun h3 => absurd h3 (by decide)) (fun h3 => ?_)
  refine aw_go 1 7 [some (.ref 2000003)] [.ref 2000003] [] rfl ?_
  refine aw_scod 3 (by decide) rfl (am_mem_in (i := 1050) (by decide +kernel)) ?_
  refine aw_if_ne rfl (fun h10 => absurd h10 (by decide)) (fun h10 => ?_)
  refine aw_go 2 18 [some (.ref 2000003)] [.int 1] [] rfl ?_
  exact aw_iret rfl (by decide) rfl ⟨rfl, rfl⟩ rfl (Nat.le_refl _) (Nat.le_refl _) -- [.int 1] []
set_option maxHeartbeats 2000000 in
set_option maxRecDepth 100000 in
theorem c_Js_coder_3 (l : Launch)  : Con l y_Js_coder M_Js_coder 0 0 [.ref 2000003] ([] : am_H) 0 0 0 0 (fun r h' => r = some (.int 0) ∧ h' = []) := by
  refine Con.ent ok_Js_coder (by decide +kernel) rfl ?_
  intro pA eA sA mA argsA belowA methA cA GA μA
  refine aw_comp rfl (am_mem_in (i := 102) (by decide +kernel)) ?_
  refine aw_if_eq rfl (fun h3 => absurd h3 (by decide)) (fun h3 => ?_)
  refine aw_go 1 7 [some (.ref 2000003)] [.ref 2000003] [] rfl ?_
  refine aw_scod 3 (by decide) rfl (am_mem_in (i := 1050) (by decide +kernel)) ?_
  refine aw_go 1 14 [some (.ref 2000003)] [.int 0] [] rfl ?_
  exact aw_iret rfl (by decide) rfl ⟨rfl, rfl⟩ rfl (Nat.le_refl _) (Nat.le_refl _) -- [.int 0] []
set_option maxHeartbeats 2000000 in
set_option maxRecDepth 100000 in
theorem c_Js_length_3 (l : Launch)  : Con l y_Js_length M_Js_length 1 20 [.ref 2000003] ([] : am_H) 0 0 0 0 (fun r h' => r = some (.int 5) ∧ h' = []) := by
  refine Con.ent ok_Js_length (by decide +kernel) rfl ?_
  intro pA eA sA mA argsA belowA methA cA GA μA
  refine aw_go 1 1 [some (.ref 2000003)] [.ref 2000003] [] rfl ?_
  refine aw_sval 3 (by decide) rfl (am_mem_in (i := 1049) (by decide +kernel)) ?_
  refine aw_slen 3 (by decide) rfl ?_
  refine aw_go 1 6 [some (.ref 2000003)] [.ref 2000003, .int 5] [] rfl ?_
  refine aw_cT 3 (c_Js_coder_3 l) (by decide) rfl cw_Js_335 rfl rfl rfl rfl (Nat.le_refl _) (Nat.le_refl _) (fun r h' hp => ?_)
  obtain ⟨rfl, rfl⟩ := hp
  refine aw_go 1 10 [some (.ref 2000003)] [.int ((5 : Int32) >>> (0 &&& 31))] [] rfl ?_
  exact aw_iret rfl rfl rfl ⟨by decide, rfl⟩ rfl (Nat.le_refl _) (Nat.le_refl _) -- [.int ((5 : Int32) >>> (0 &&& 31))] []
set_option maxHeartbeats 2000000 in
set_option maxRecDepth 100000 in
theorem c_Jp_checkIndex_n (l : Launch) (j n : Nat) (hj : j < n) (hn : n < 2 ^ 31) : Con l y_Jp_checkIndex M_Jp_checkIndex 0 0 [.int (nI j), .int (nI n), .null] ([] : am_H) 0 0 0 0 (fun r h' => r = some (.int (nI j)) ∧ h' = []) := by
  refine Con.ent ok_Jp_checkIndex (by decide +kernel) rfl ?_
  intro pA eA sA mA argsA belowA methA cA GA μA
  refine aw_go 1 1 [some (.int (nI j)), some (.int (nI n)), some (.null)] [.int (nI j)] [] rfl ?_
  refine aw_if_lt rfl (fun h1 => absurd h1 (nI_pos (by omega))) (fun h1 => ?_)
  refine aw_go 2 6 [some (.int (nI j)), some (.int (nI n)), some (.null)] [.int (nI n), .int (nI j)] [] rfl ?_
  refine aw_cmp_lt rfl (fun h6 => ?_) (fun h6 => absurd (nI_lt hj hn) h6)
  refine aw_go 1 17 [some (.int (nI j)), some (.int (nI n)), some (.null)] [.int (nI j)] [] rfl ?_
  exact aw_iret rfl rfl rfl ⟨rfl, rfl⟩ rfl (Nat.le_refl _) (Nat.le_refl _) -- [.int (nI j)] []
set_option maxHeartbeats 2000000 in
set_option maxRecDepth 100000 in
theorem c_Jp_checkIndex_r (l : Launch) (j n : Nat) (hj : j < n) (hn : n < 2 ^ 31) : Con l y_Jp_checkIndex M_Jp_checkIndex 0 0 [.int (nI j), .int (nI n), .ref 4000000] ([] : am_H) 0 0 0 0 (fun r h' => r = some (.int (nI j)) ∧ h' = []) := by
  refine Con.ent ok_Jp_checkIndex (by decide +kernel) rfl ?_
  intro pA eA sA mA argsA belowA methA cA GA μA
  refine aw_go 1 1 [some (.int (nI j)), some (.int (nI n)), some (.ref 4000000)] [.int (nI j)] [] rfl ?_
  refine aw_if_lt rfl (fun h1 => absurd h1 (nI_pos (by omega))) (fun h1 => ?_)
  refine aw_go 2 6 [some (.int (nI j)), some (.int (nI n)), some (.ref 4000000)] [.int (nI n), .int (nI j)] [] rfl ?_
  refine aw_cmp_lt rfl (fun h6 => ?_) (fun h6 => absurd (nI_lt hj hn) h6)
  refine aw_go 1 17 [some (.int (nI j)), some (.int (nI n)), some (.ref 4000000)] [.int (nI j)] [] rfl ?_
  exact aw_iret rfl rfl rfl ⟨rfl, rfl⟩ rfl (Nat.le_refl _) (Nat.le_refl _) -- [.int (nI j)] []
set_option maxHeartbeats 2000000 in
set_option maxRecDepth 100000 in
theorem c_Js_checkIndex (l : Launch) (j n : Nat) (hj : j < n) (hn : n < 2 ^ 31) : Con l y_Js_checkIndex M_Js_checkIndex 1 22 [.int (nI j), .int (nI n)] ([] : am_H) 0 0 0 0 (fun r h' => r = none ∧ h' = []) := by
  refine Con.ent ok_Js_checkIndex (by decide +kernel) rfl ?_
  intro pA eA sA mA argsA belowA methA cA GA μA
  refine aw_go 2 2 [some (.int (nI j)), some (.int (nI n))] [.int (nI n), .int (nI j)] [] rfl ?_
  refine aw_fmt rfl (am_mem_in (i := 118) (by decide +kernel)) ?_ ?_
  · refine aw_cS [] (c_Jp_checkIndex_n l j n hj hn) rfl cw_Js_1059 rfl rfl rfl rfl (Nat.le_refl _) (Nat.le_refl _) (fun r h' hp => ?_)
    obtain ⟨rfl, rfl⟩ := hp
    refine aw_go 1 9 [some (.int (nI j)), some (.int (nI n))] [] [] rfl ?_
    exact aw_vret rfl rfl ⟨rfl, rfl⟩ rfl (Nat.le_refl _) (Nat.le_refl _) -- [] []
  · refine aw_cS [] (c_Jp_checkIndex_r l j n hj hn) rfl cw_Js_1059 rfl rfl rfl rfl (Nat.le_refl _) (Nat.le_refl _) (fun r h' hp => ?_)
    obtain ⟨rfl, rfl⟩ := hp
    refine aw_go 1 9 [some (.int (nI j)), some (.int (nI n))] [] [] rfl ?_
    exact aw_vret rfl rfl ⟨rfl, rfl⟩ rfl (Nat.le_refl _) (Nat.le_refl _) -- [] []
set_option maxHeartbeats 2000000 in
set_option maxRecDepth 100000 in
theorem c_Jl_charAt_0 (l : Launch) (j : Nat) (hj : j < 47) : Con l y_Jl_charAt M_Jl_charAt 2 43 [.ref 3000000, .int (nI j)] ([] : am_H) 0 0 0 0 (fun r h' => r = some (.int (nI (am_ch 0 j))) ∧ h' = []) := by
  refine Con.ent ok_Jl_charAt (by decide +kernel) rfl ?_
  intro pA eA sA mA argsA belowA methA cA GA μA
  refine aw_go 2 2 [some (.ref 3000000), some (.int (nI j))] [.ref 3000000, .int (nI j)] [] rfl ?_
  refine aw_slen 0 (by decide) rfl ?_
  refine aw_go 0 3 [some (.ref 3000000), some (.int (nI j))] [.int 47, .int (nI j)] [] rfl ?_
  refine aw_cS [] (c_Js_checkIndex l j 47 hj (by decide)) rfl cw_Jl_9 rfl rfl rfl rfl (Nat.le_refl _) (Nat.le_refl _) (fun r h' hp => ?_)
  obtain ⟨rfl, rfl⟩ := hp
  refine aw_go 2 8 [some (.ref 3000000), some (.int (nI j))] [.int (nI j), .ref 3000000] [] rfl ?_
  refine aw_sbyt 0 j (by decide) hj rfl ?_
  refine aw_go 3 14 [some (.ref 3000000), some (.int (nI j))] [.int (Int32.toUInt32 (((am_byt4.getD 0 []).getD j 0) &&& 255) % 65536).toInt32] [] rfl ?_
  exact aw_iret rfl (by rw [am_ch_eq 0 (by decide) j hj]; exact tx_nar ⟨_, am_ch_lt 0 (by decide) j hj, rfl⟩) rfl ⟨by rw [am_ch_eq 0 (by decide) j hj], rfl⟩ rfl (Nat.le_refl _) (Nat.le_refl _) -- [.int (Int32.toUInt32 (((am_byt4.getD 0 []).getD j 0) &&& 255) % 65536).toInt32] []
set_option maxHeartbeats 2000000 in
set_option maxRecDepth 100000 in
theorem c_Js_charAt_0 (l : Launch) (j : Nat) (hj : j < 47) : Con l y_Js_charAt M_Js_charAt 3 64 [.ref 2000000, .int (nI j)] ([] : am_H) 0 0 0 0 (fun r h' => r = some (.int (nI (am_ch 0 j))) ∧ h' = []) := by
  refine Con.ent ok_Js_charAt (by decide +kernel) rfl ?_
  intro pA eA sA mA argsA belowA methA cA GA μA
  refine aw_go 1 1 [some (.ref 2000000), some (.int (nI j))] [.ref 2000000] [] rfl ?_
  refine aw_cT 0 (c_Js_isLatin1_0 l) (by decide) rfl cw_Js_492 rfl rfl rfl rfl (Nat.le_refl _) (Nat.le_refl _) (fun r h' hp => ?_)
  obtain ⟨rfl, rfl⟩ := hp
  refine aw_go 0 4 [some (.ref 2000000), some (.int (nI j))] [.int 1] [] rfl ?_
  refine aw_if_eq rfl (fun h4 => absurd h4 (by decide)) (fun h4 => ?_)
  refine aw_go 1 8 [some (.ref 2000000), some (.int (nI j))] [.ref 2000000] [] rfl ?_
  refine aw_sval 0 (by decide) rfl (am_mem_in (i := 1049) (by decide +kernel)) ?_
  refine aw_go 1 12 [some (.ref 2000000), some (.int (nI j))] [.int (nI j), .ref 3000000] [] rfl ?_
  refine aw_cS [] (c_Jl_charAt_0 l j hj) rfl cw_Js_495 rfl rfl rfl rfl (Nat.le_refl _) (Nat.le_refl _) (fun r h' hp => ?_)
  obtain ⟨rfl, rfl⟩ := hp
  refine aw_go 0 15 [some (.ref 2000000), some (.int (nI j))] [.int (nI (am_ch 0 j))] [] rfl ?_
  exact aw_iret rfl (tx_nar ⟨_, am_ch_lt 0 (by decide) j hj, rfl⟩) rfl ⟨rfl, rfl⟩ rfl (Nat.le_refl _) (Nat.le_refl _) -- [.int (nI (am_ch 0 j))] []
set_option maxHeartbeats 2000000 in
set_option maxRecDepth 100000 in
theorem c_Jl_charAt_1 (l : Launch) (j : Nat) (hj : j < 10) : Con l y_Jl_charAt M_Jl_charAt 2 43 [.ref 3000001, .int (nI j)] ([] : am_H) 0 0 0 0 (fun r h' => r = some (.int (nI (am_ch 1 j))) ∧ h' = []) := by
  refine Con.ent ok_Jl_charAt (by decide +kernel) rfl ?_
  intro pA eA sA mA argsA belowA methA cA GA μA
  refine aw_go 2 2 [some (.ref 3000001), some (.int (nI j))] [.ref 3000001, .int (nI j)] [] rfl ?_
  refine aw_slen 1 (by decide) rfl ?_
  refine aw_go 0 3 [some (.ref 3000001), some (.int (nI j))] [.int 10, .int (nI j)] [] rfl ?_
  refine aw_cS [] (c_Js_checkIndex l j 10 hj (by decide)) rfl cw_Jl_9 rfl rfl rfl rfl (Nat.le_refl _) (Nat.le_refl _) (fun r h' hp => ?_)
  obtain ⟨rfl, rfl⟩ := hp
  refine aw_go 2 8 [some (.ref 3000001), some (.int (nI j))] [.int (nI j), .ref 3000001] [] rfl ?_
  refine aw_sbyt 1 j (by decide) hj rfl ?_
  refine aw_go 3 14 [some (.ref 3000001), some (.int (nI j))] [.int (Int32.toUInt32 (((am_byt4.getD 1 []).getD j 0) &&& 255) % 65536).toInt32] [] rfl ?_
  exact aw_iret rfl (by rw [am_ch_eq 1 (by decide) j hj]; exact tx_nar ⟨_, am_ch_lt 1 (by decide) j hj, rfl⟩) rfl ⟨by rw [am_ch_eq 1 (by decide) j hj], rfl⟩ rfl (Nat.le_refl _) (Nat.le_refl _) -- [.int (Int32.toUInt32 (((am_byt4.getD 1 []).getD j 0) &&& 255) % 65536).toInt32] []
set_option maxHeartbeats 2000000 in
set_option maxRecDepth 100000 in
theorem c_Js_charAt_1 (l : Launch) (j : Nat) (hj : j < 10) : Con l y_Js_charAt M_Js_charAt 3 64 [.ref 2000001, .int (nI j)] ([] : am_H) 0 0 0 0 (fun r h' => r = some (.int (nI (am_ch 1 j))) ∧ h' = []) := by
  refine Con.ent ok_Js_charAt (by decide +kernel) rfl ?_
  intro pA eA sA mA argsA belowA methA cA GA μA
  refine aw_go 1 1 [some (.ref 2000001), some (.int (nI j))] [.ref 2000001] [] rfl ?_
  refine aw_cT 1 (c_Js_isLatin1_1 l) (by decide) rfl cw_Js_492 rfl rfl rfl rfl (Nat.le_refl _) (Nat.le_refl _) (fun r h' hp => ?_)
  obtain ⟨rfl, rfl⟩ := hp
  refine aw_go 0 4 [some (.ref 2000001), some (.int (nI j))] [.int 1] [] rfl ?_
  refine aw_if_eq rfl (fun h4 => absurd h4 (by decide)) (fun h4 => ?_)
  refine aw_go 1 8 [some (.ref 2000001), some (.int (nI j))] [.ref 2000001] [] rfl ?_
  refine aw_sval 1 (by decide) rfl (am_mem_in (i := 1049) (by decide +kernel)) ?_
  refine aw_go 1 12 [some (.ref 2000001), some (.int (nI j))] [.int (nI j), .ref 3000001] [] rfl ?_
  refine aw_cS [] (c_Jl_charAt_1 l j hj) rfl cw_Js_495 rfl rfl rfl rfl (Nat.le_refl _) (Nat.le_refl _) (fun r h' hp => ?_)
  obtain ⟨rfl, rfl⟩ := hp
  refine aw_go 0 15 [some (.ref 2000001), some (.int (nI j))] [.int (nI (am_ch 1 j))] [] rfl ?_
  exact aw_iret rfl (tx_nar ⟨_, am_ch_lt 1 (by decide) j hj, rfl⟩) rfl ⟨rfl, rfl⟩ rfl (Nat.le_refl _) (Nat.le_refl _) -- [.int (nI (am_ch 1 j))] []
set_option maxHeartbeats 2000000 in
set_option maxRecDepth 100000 in
theorem c_Jl_charAt_2 (l : Launch) (j : Nat) (hj : j < 3) : Con l y_Jl_charAt M_Jl_charAt 2 43 [.ref 3000002, .int (nI j)] ([] : am_H) 0 0 0 0 (fun r h' => r = some (.int (nI (am_ch 2 j))) ∧ h' = []) := by
  refine Con.ent ok_Jl_charAt (by decide +kernel) rfl ?_
  intro pA eA sA mA argsA belowA methA cA GA μA
  refine aw_go 2 2 [some (.ref 3000002), some (.int (nI j))] [.ref 3000002, .int (nI j)] [] rfl ?_
  refine aw_slen 2 (by decide) rfl ?_
  refine aw_go 0 3 [some (.ref 3000002), some (.int (nI j))] [.int 3, .int (nI j)] [] rfl ?_
  refine aw_cS [] (c_Js_checkIndex l j 3 hj (by decide)) rfl cw_Jl_9 rfl rfl rfl rfl (Nat.le_refl _) (Nat.le_refl _) (fun r h' hp => ?_)
  obtain ⟨rfl, rfl⟩ := hp
  refine aw_go 2 8 [some (.ref 3000002), some (.int (nI j))] [.int (nI j), .ref 3000002] [] rfl ?_
  refine aw_sbyt 2 j (by decide) hj rfl ?_
  refine aw_go 3 14 [some (.ref 3000002), some (.int (nI j))] [.int (Int32.toUInt32 (((am_byt4.getD 2 []).getD j 0) &&& 255) % 65536).toInt32] [] rfl ?_
  exact aw_iret rfl (by rw [am_ch_eq 2 (by decide) j hj]; exact tx_nar ⟨_, am_ch_lt 2 (by decide) j hj, rfl⟩) rfl ⟨by rw [am_ch_eq 2 (by decide) j hj], rfl⟩ rfl (Nat.le_refl _) (Nat.le_refl _) -- [.int (Int32.toUInt32 (((am_byt4.getD 2 []).getD j 0) &&& 255) % 65536).toInt32] []
set_option maxHeartbeats 2000000 in
set_option maxRecDepth 100000 in
theorem c_Js_charAt_2 (l : Launch) (j : Nat) (hj : j < 3) : Con l y_Js_charAt M_Js_charAt 3 64 [.ref 2000002, .int (nI j)] ([] : am_H) 0 0 0 0 (fun r h' => r = some (.int (nI (am_ch 2 j))) ∧ h' = []) := by
  refine Con.ent ok_Js_charAt (by decide +kernel) rfl ?_
  intro pA eA sA mA argsA belowA methA cA GA μA
  refine aw_go 1 1 [some (.ref 2000002), some (.int (nI j))] [.ref 2000002] [] rfl ?_
  refine aw_cT 2 (c_Js_isLatin1_2 l) (by decide) rfl cw_Js_492 rfl rfl rfl rfl (Nat.le_refl _) (Nat.le_refl _) (fun r h' hp => ?_)
  obtain ⟨rfl, rfl⟩ := hp
  refine aw_go 0 4 [some (.ref 2000002), some (.int (nI j))] [.int 1] [] rfl ?_
  refine aw_if_eq rfl (fun h4 => absurd h4 (by decide)) (fun h4 => ?_)
  refine aw_go 1 8 [some (.ref 2000002), some (.int (nI j))] [.ref 2000002] [] rfl ?_
  refine aw_sval 2 (by decide) rfl (am_mem_in (i := 1049) (by decide +kernel)) ?_
  refine aw_go 1 12 [some (.ref 2000002), some (.int (nI j))] [.int (nI j), .ref 3000002] [] rfl ?_
  refine aw_cS [] (c_Jl_charAt_2 l j hj) rfl cw_Js_495 rfl rfl rfl rfl (Nat.le_refl _) (Nat.le_refl _) (fun r h' hp => ?_)
  obtain ⟨rfl, rfl⟩ := hp
  refine aw_go 0 15 [some (.ref 2000002), some (.int (nI j))] [.int (nI (am_ch 2 j))] [] rfl ?_
  exact aw_iret rfl (tx_nar ⟨_, am_ch_lt 2 (by decide) j hj, rfl⟩) rfl ⟨rfl, rfl⟩ rfl (Nat.le_refl _) (Nat.le_refl _) -- [.int (nI (am_ch 2 j))] []
set_option maxHeartbeats 2000000 in
set_option maxRecDepth 100000 in
theorem c_Jl_charAt_3 (l : Launch) (j : Nat) (hj : j < 5) : Con l y_Jl_charAt M_Jl_charAt 2 43 [.ref 3000003, .int (nI j)] ([] : am_H) 0 0 0 0 (fun r h' => r = some (.int (nI (am_ch 3 j))) ∧ h' = []) := by
  refine Con.ent ok_Jl_charAt (by decide +kernel) rfl ?_
  intro pA eA sA mA argsA belowA methA cA GA μA
  refine aw_go 2 2 [some (.ref 3000003), some (.int (nI j))] [.ref 3000003, .int (nI j)] [] rfl ?_
  refine aw_slen 3 (by decide) rfl ?_
  refine aw_go 0 3 [some (.ref 3000003), some (.int (nI j))] [.int 5, .int (nI j)] [] rfl ?_
  refine aw_cS [] (c_Js_checkIndex l j 5 hj (by decide)) rfl cw_Jl_9 rfl rfl rfl rfl (Nat.le_refl _) (Nat.le_refl _) (fun r h' hp => ?_)
  obtain ⟨rfl, rfl⟩ := hp
  refine aw_go 2 8 [some (.ref 3000003), some (.int (nI j))] [.int (nI j), .ref 3000003] [] rfl ?_
  refine aw_sbyt 3 j (by decide) hj rfl ?_
  refine aw_go 3 14 [some (.ref 3000003), some (.int (nI j))] [.int (Int32.toUInt32 (((am_byt4.getD 3 []).getD j 0) &&& 255) % 65536).toInt32] [] rfl ?_
  exact aw_iret rfl (by rw [am_ch_eq 3 (by decide) j hj]; exact tx_nar ⟨_, am_ch_lt 3 (by decide) j hj, rfl⟩) rfl ⟨by rw [am_ch_eq 3 (by decide) j hj], rfl⟩ rfl (Nat.le_refl _) (Nat.le_refl _) -- [.int (Int32.toUInt32 (((am_byt4.getD 3 []).getD j 0) &&& 255) % 65536).toInt32] []
set_option maxHeartbeats 2000000 in
set_option maxRecDepth 100000 in
theorem c_Js_charAt_3 (l : Launch) (j : Nat) (hj : j < 5) : Con l y_Js_charAt M_Js_charAt 3 64 [.ref 2000003, .int (nI j)] ([] : am_H) 0 0 0 0 (fun r h' => r = some (.int (nI (am_ch 3 j))) ∧ h' = []) := by
  refine Con.ent ok_Js_charAt (by decide +kernel) rfl ?_
  intro pA eA sA mA argsA belowA methA cA GA μA
  refine aw_go 1 1 [some (.ref 2000003), some (.int (nI j))] [.ref 2000003] [] rfl ?_
  refine aw_cT 3 (c_Js_isLatin1_3 l) (by decide) rfl cw_Js_492 rfl rfl rfl rfl (Nat.le_refl _) (Nat.le_refl _) (fun r h' hp => ?_)
  obtain ⟨rfl, rfl⟩ := hp
  refine aw_go 0 4 [some (.ref 2000003), some (.int (nI j))] [.int 1] [] rfl ?_
  refine aw_if_eq rfl (fun h4 => absurd h4 (by decide)) (fun h4 => ?_)
  refine aw_go 1 8 [some (.ref 2000003), some (.int (nI j))] [.ref 2000003] [] rfl ?_
  refine aw_sval 3 (by decide) rfl (am_mem_in (i := 1049) (by decide +kernel)) ?_
  refine aw_go 1 12 [some (.ref 2000003), some (.int (nI j))] [.int (nI j), .ref 3000003] [] rfl ?_
  refine aw_cS [] (c_Jl_charAt_3 l j hj) rfl cw_Js_495 rfl rfl rfl rfl (Nat.le_refl _) (Nat.le_refl _) (fun r h' hp => ?_)
  obtain ⟨rfl, rfl⟩ := hp
  refine aw_go 0 15 [some (.ref 2000003), some (.int (nI j))] [.int (nI (am_ch 3 j))] [] rfl ?_
  exact aw_iret rfl (tx_nar ⟨_, am_ch_lt 3 (by decide) j hj, rfl⟩) rfl ⟨rfl, rfl⟩ rfl (Nat.le_refl _) (Nat.le_refl _) -- [.int (nI (am_ch 3 j))] []
set_option maxHeartbeats 2000000 in
set_option maxRecDepth 100000 in
theorem c_Jl_canEncode (l : Launch) (ch : Nat) (hc : ch < 256) : Con l y_Jl_canEncode M_Jl_canEncode 0 0 [.int (nI ch)] ([] : am_H) 0 0 0 0 (fun r h' => r = some (.int 1) ∧ h' = []) := by
  refine Con.ent ok_Jl_canEncode (by decide +kernel) rfl ?_
  intro pA eA sA mA argsA belowA methA cA GA μA
  refine aw_go 1 1 [some (.int (nI ch))] [.int (nI ch)] [] rfl ?_
  refine aw_if_lt rfl (fun h1 => absurd h1 (nI_pos (by omega))) (fun h1 => ?_)
  refine aw_go 2 8 [some (.int (nI ch))] [.int 255, .int (nI ch)] [] rfl ?_
  refine aw_cmp_gt rfl (fun h8 => absurd h8 (nI_nlt (b := ch) (a := 255) (by omega) (by omega))) (fun h8 => ?_)
  refine aw_go 2 16 [some (.int (nI ch))] [.int 1] [] rfl ?_
  exact aw_iret rfl (by decide) rfl ⟨rfl, rfl⟩ rfl (Nat.le_refl _) (Nat.le_refl _) -- [.int 1] []
set_option maxHeartbeats 2000000 in
set_option maxRecDepth 100000 in
theorem c_Jl_indexOfChar (l : Launch) (ch : Nat) (hc : ch < 256) : Con l y_Jl_indexOfChar M_Jl_indexOfChar 0 0 [.ref 3000000, .int (nI ch), .int 0, .int 47] ([] : am_H) 0 0 0 0 (fun r h' => r = some (.int (oI (sg_ix ch))) ∧ h' = []) := by
  refine Con.ent ok_Jl_indexOfChar (by decide +kernel) rfl ?_
  intro pA eA sA mA argsA belowA methA cA GA μA
  refine aw_go 5 7 [some (.ref 3000000), some (.int (nI ch)), some (.int 0), some (.int 47), some (.int (Int32.toInt8 (nI ch)).toInt32), some (.int (nI 0))] [] [] rfl ?_
  refine aw_loop (σ := Nat) (fun k => k ≤ 47 ∧ ∀ j, j < k → am_ch 0 j ≠ ch) (fun k => 47 - k) (fun k => [some (.ref 3000000), some (.int (nI ch)), some (.int 0), some (.int 47), some (.int (Int32.toInt8 (nI ch)).toInt32), some (.int (nI k))]) (fun _ => []) (fun _ => []) ?_ 0 ⟨by omega, fun j hj => absurd hj (by omega)⟩
  intro k hI ih
  refine aw_go 2 10 [some (.ref 3000000), some (.int (nI ch)), some (.int 0), some (.int 47), some (.int (Int32.toInt8 (nI ch)).toInt32), some (.int (nI k))] [.int 47, .int (nI k)] [] rfl ?_
  refine aw_cmp_ge rfl (fun h10 => ?_) (fun h10 => ?_)
  · refine aw_go 1 32 [some (.ref 3000000), some (.int (nI ch)), some (.int 0), some (.int 47), some (.int (Int32.toInt8 (nI ch)).toInt32), some (.int (nI k))] [.int (-1)] [] rfl ?_
    exact aw_iret rfl rfl rfl ⟨by rw [sg_no (show ∀ j, j < 47 → am_ch 0 j ≠ ch from fun j hj => hI.2 j (by have h9 : ¬ k < 47 := (fun z => nI_ge (b := 47) z (by omega) h10); omega))]; rfl, rfl⟩ rfl (Nat.le_refl _) (Nat.le_refl _) -- [.int (-1)] []
  · have hk : k < 47 := Nat.not_le.mp fun z => h10 (nI_le (a := 47) z (by omega))
    refine aw_go 2 16 [some (.ref 3000000), some (.int (nI ch)), some (.int 0), some (.int 47), some (.int (Int32.toInt8 (nI ch)).toInt32), some (.int (nI k))] [.int (nI k), .ref 3000000] [] rfl ?_
    refine aw_sbyt 0 k (by decide) (show k < 47 from hk) rfl ?_
    refine aw_go 1 19 [some (.ref 3000000), some (.int (nI ch)), some (.int 0), some (.int 47), some (.int (Int32.toInt8 (nI ch)).toInt32), some (.int (nI k))] [.int (Int32.toInt8 (nI ch)).toInt32, .int ((am_byt4.getD 0 []).getD k 0)] [] rfl ?_
    refine aw_cmp_ne rfl (fun h19 => ?_) (fun h19 => ?_)
    · refine aw_go 2 7 [some (.ref 3000000), some (.int (nI ch)), some (.int 0), some (.int 47), some (.int (Int32.toInt8 (nI ch)).toInt32), some (.int ((nI k) + 1))] [] [] rfl ?_
      -- LOOP 7: [some (.ref 3000000), some (.int (nI ch)), some (.int 0), some (.int 47), some (.int (Int32.toInt8 (nI ch)).toInt32), some (.int ((nI k) + 1))] [] []
      exact aw_eq (by simp only [nI_succ]) rfl rfl (ih (k + 1) ⟨by omega, fun j hj => by
      rcases Nat.lt_or_ge j k with h | h
      · exact hI.2 j h
      · rw [show j = k by omega]; exact sg_miss hk hc h19⟩ (by omega))
    · refine aw_go 1 24 [some (.ref 3000000), some (.int (nI ch)), some (.int 0), some (.int 47), some (.int (Int32.toInt8 (nI ch)).toInt32), some (.int (nI k))] [.int (nI k)] [] rfl ?_
      exact aw_iret rfl rfl rfl ⟨by rw [sg_hit hk hc h19]; rfl, rfl⟩ rfl (Nat.le_refl _) (Nat.le_refl _) -- [.int (nI k)] []
set_option maxHeartbeats 2000000 in
set_option maxRecDepth 100000 in
theorem c_Jl_indexOf (l : Launch) (ch : Nat) (hc : ch < 256) : Con l y_Jl_indexOf M_Jl_indexOf 1 25 [.ref 3000000, .int (nI ch), .int 0, .int 47] ([] : am_H) 0 0 0 0 (fun r h' => r = some (.int (oI (sg_ix ch))) ∧ h' = []) := by
  refine Con.ent ok_Jl_indexOf (by decide +kernel) rfl ?_
  intro pA eA sA mA argsA belowA methA cA GA μA
  refine aw_go 1 1 [some (.ref 3000000), some (.int (nI ch)), some (.int 0), some (.int 47)] [.int (nI ch)] [] rfl ?_
  refine aw_cS [] (c_Jl_canEncode l ch hc) rfl cw_Jl_88 rfl rfl rfl rfl (Nat.le_refl _) (Nat.le_refl _) (fun r h' hp => ?_)
  obtain ⟨rfl, rfl⟩ := hp
  refine aw_go 0 4 [some (.ref 3000000), some (.int (nI ch)), some (.int 0), some (.int 47)] [.int 1] [] rfl ?_
  refine aw_if_ne rfl (fun h4 => ?_) (fun h4 => absurd h4 (by decide))
  refine aw_go 2 11 [some (.ref 3000000), some (.int (nI ch)), some (.int 0), some (.int 47)] [.int 0, .int 0] [] rfl ?_
  refine aw_max rfl (by decide +kernel) (Nat.le_of_ble_eq_true rfl) (Nat.le_of_ble_eq_true rfl) (Nat.le_of_ble_eq_true rfl) (Nat.le_refl _) (Nat.le_refl _) ?_
  rw [show (if (0 : Int32) < 0 then (0 : Int32) else 0) = 0 from by decide]
  refine aw_go 3 17 [some (.ref 3000000), some (.int (nI ch)), some (.int 0), some (.int 47)] [.ref 3000000, .int 47] [] rfl ?_
  refine aw_slen 0 (by decide) rfl ?_
  refine aw_go 0 18 [some (.ref 3000000), some (.int (nI ch)), some (.int 0), some (.int 47)] [.int 47, .int 47] [] rfl ?_
  refine aw_min rfl (by decide +kernel) (Nat.le_of_ble_eq_true rfl) (Nat.le_of_ble_eq_true rfl) (Nat.le_of_ble_eq_true rfl) (Nat.le_refl _) (Nat.le_refl _) ?_
  rw [show (if (47 : Int32) < 47 then (47 : Int32) else 47) = 47 from by decide]
  refine aw_go 3 24 [some (.ref 3000000), some (.int (nI ch)), some (.int 0), some (.int 47)] [.int 47, .int 0] [] rfl ?_
  refine aw_cmp_lt rfl (fun h24 => ?_) (fun h24 => absurd h24 (by decide))
  refine aw_go 4 33 [some (.ref 3000000), some (.int (nI ch)), some (.int 0), some (.int 47)] [.int 47, .int 0, .int (nI ch), .ref 3000000] [] rfl ?_
  refine aw_cS [] (c_Jl_indexOfChar l ch hc) rfl cw_Jl_95 rfl rfl rfl rfl (Nat.le_refl _) (Nat.le_refl _) (fun r h' hp => ?_)
  obtain ⟨rfl, rfl⟩ := hp
  refine aw_go 0 36 [some (.ref 3000000), some (.int (nI ch)), some (.int 0), some (.int 47)] [.int (oI (sg_ix ch))] [] rfl ?_
  exact aw_iret rfl rfl rfl ⟨rfl, rfl⟩ rfl (Nat.le_refl _) (Nat.le_refl _) -- [.int (oI (sg_ix ch))] []
set_option maxHeartbeats 2000000 in
set_option maxRecDepth 100000 in
theorem c_Js_indexOf_2 (l : Launch) (ch : Nat) (hc : ch < 256) : Con l y_Js_indexOf_2 M_Js_indexOf_2 2 48 [.ref 2000000, .int (nI ch), .int 0] ([] : am_H) 0 0 0 0 (fun r h' => r = some (.int (oI (sg_ix ch))) ∧ h' = []) := by
  refine Con.ent ok_Js_indexOf_2 (by decide +kernel) rfl ?_
  intro pA eA sA mA argsA belowA methA cA GA μA
  refine aw_go 1 1 [some (.ref 2000000), some (.int (nI ch)), some (.int 0)] [.ref 2000000] [] rfl ?_
  refine aw_cT 0 (c_Js_isLatin1_0 l) (by decide) rfl cw_Js_492 rfl rfl rfl rfl (Nat.le_refl _) (Nat.le_refl _) (fun r h' hp => ?_)
  obtain ⟨rfl, rfl⟩ := hp
  refine aw_go 0 4 [some (.ref 2000000), some (.int (nI ch)), some (.int 0)] [.int 1] [] rfl ?_
  refine aw_if_eq rfl (fun h4 => absurd h4 (by decide)) (fun h4 => ?_)
  refine aw_go 1 8 [some (.ref 2000000), some (.int (nI ch)), some (.int 0)] [.ref 2000000] [] rfl ?_
  refine aw_sval 0 (by decide) rfl (am_mem_in (i := 1049) (by decide +kernel)) ?_
  refine aw_go 3 14 [some (.ref 2000000), some (.int (nI ch)), some (.int 0)] [.ref 2000000, .int 0, .int (nI ch), .ref 3000000] [] rfl ?_
  refine aw_cT 0 (c_Js_length_0 l) (by decide) rfl cw_Js_505 rfl rfl rfl rfl (Nat.le_refl _) (Nat.le_refl _) (fun r h' hp => ?_)
  obtain ⟨rfl, rfl⟩ := hp
  refine aw_go 0 17 [some (.ref 2000000), some (.int (nI ch)), some (.int 0)] [.int 47, .int 0, .int (nI ch), .ref 3000000] [] rfl ?_
  refine aw_cS [] (c_Jl_indexOf l ch hc) rfl cw_Js_637 rfl rfl rfl rfl (Nat.le_refl _) (Nat.le_refl _) (fun r h' hp => ?_)
  obtain ⟨rfl, rfl⟩ := hp
  refine aw_go 1 36 [some (.ref 2000000), some (.int (nI ch)), some (.int 0)] [.int (oI (sg_ix ch))] [] rfl ?_
  exact aw_iret rfl rfl rfl ⟨rfl, rfl⟩ rfl (Nat.le_refl _) (Nat.le_refl _) -- [.int (oI (sg_ix ch))] []
set_option maxHeartbeats 2000000 in
set_option maxRecDepth 100000 in
theorem c_Js_indexOf_1 (l : Launch) (ch : Nat) (hc : ch < 256) : Con l y_Js_indexOf_1 M_Js_indexOf_1 3 70 [.ref 2000000, .int (nI ch)] ([] : am_H) 0 0 0 0 (fun r h' => r = some (.int (oI (sg_ix ch))) ∧ h' = []) := by
  refine Con.ent ok_Js_indexOf_1 (by decide +kernel) rfl ?_
  intro pA eA sA mA argsA belowA methA cA GA μA
  refine aw_go 3 3 [some (.ref 2000000), some (.int (nI ch))] [.int 0, .int (nI ch), .ref 2000000] [] rfl ?_
  refine aw_cT 0 (c_Js_indexOf_2 l ch hc) (by decide) rfl cw_Js_633 rfl rfl rfl rfl (Nat.le_refl _) (Nat.le_refl _) (fun r h' hp => ?_)
  obtain ⟨rfl, rfl⟩ := hp
  refine aw_go 0 6 [some (.ref 2000000), some (.int (nI ch))] [.int (oI (sg_ix ch))] [] rfl ?_
  exact aw_iret rfl rfl rfl ⟨rfl, rfl⟩ rfl (Nat.le_refl _) (Nat.le_refl _) -- [.int (oI (sg_ix ch))] []
