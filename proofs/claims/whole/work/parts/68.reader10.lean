/-! Reader: what it tells -/
theorem rd_mn {L : Nat} (hL : L ≤ 3000) : (2 : Int32) * (if 1000 < nI L then 1000 else nI L) = nI (2 * min L 1000) := by
  rcases Nat.lt_or_ge 1000 L with q | q
  · rw [if_pos (show (1000 : Int32) < nI L from nI_lt (a := 1000) q (by omega)), show min L 1000 = 1000 by omega]
    rfl
  · rw [if_neg (show ¬ (1000 : Int32) < nI L from nI_nlt (a := 1000) q (by omega)), show min L 1000 = L by omega]
    exact pk_mul 2 L
set_option maxHeartbeats 2000000 in
set_option maxRecDepth 100000 in
theorem c_Rd_result (l : Launch) (lev hel res lf lp nx sa kn len cnt mark : Int32) (vu : Int64) (cap : Nat) (keys : Nat → Int64) (sta bas obj f wa dp ln mk pt sl : Nat → Int32) : Con l y_Rd_result M_Rd_result 0 0 [.ref 0] (rdH lev hel res lf lp sta bas obj nx sa kn vu f wa len cap keys dp ln mk pt sl cnt mark) 15 0 0 0 (fun r h' => r = some (.int res) ∧ h' = rdH lev hel res lf lp sta bas obj nx sa kn vu f wa len cap keys dp ln mk pt sl cnt mark) := by
  refine Con.ent ok_Rd_result (by decide +kernel) rfl ?_
  intro pA eA sA mA argsA belowA methA cA GA μA
  refine aw_go 2 4 [some (.ref 0)] [.int res] (rdH lev hel res lf lp sta bas obj nx sa kn vu f wa len cap keys dp ln mk pt sl cnt mark) rfl ?_
  exact aw_iret rfl rfl rfl ⟨rfl, rfl⟩ rfl (Nat.le_refl _) (Nat.le_refl _) -- [.int res] (rdH lev hel res lf lp sta bas obj nx sa kn vu f wa len cap keys dp ln mk pt sl cnt mark)
set_option maxHeartbeats 2000000 in
set_option maxRecDepth 100000 in
theorem c_Rd_latestFault (l : Launch) (lev hel res lf lp nx sa kn len cnt mark : Int32) (vu : Int64) (cap : Nat) (keys : Nat → Int64) (sta bas obj f wa dp ln mk pt sl : Nat → Int32) : Con l y_Rd_latestFault M_Rd_latestFault 0 0 [.ref 0] (rdH lev hel res lf lp sta bas obj nx sa kn vu f wa len cap keys dp ln mk pt sl cnt mark) 15 0 0 0 (fun r h' => r = some (.int lf) ∧ h' = rdH lev hel res lf lp sta bas obj nx sa kn vu f wa len cap keys dp ln mk pt sl cnt mark) := by
  refine Con.ent ok_Rd_latestFault (by decide +kernel) rfl ?_
  intro pA eA sA mA argsA belowA methA cA GA μA
  refine aw_go 2 4 [some (.ref 0)] [.int lf] (rdH lev hel res lf lp sta bas obj nx sa kn vu f wa len cap keys dp ln mk pt sl cnt mark) rfl ?_
  exact aw_iret rfl rfl rfl ⟨rfl, rfl⟩ rfl (Nat.le_refl _) (Nat.le_refl _) -- [.int lf] (rdH lev hel res lf lp sta bas obj nx sa kn vu f wa len cap keys dp ln mk pt sl cnt mark)
set_option maxHeartbeats 2000000 in
set_option maxRecDepth 100000 in
theorem c_Rd_latestFaultPlace (l : Launch) (lev hel res lf lp nx sa kn len cnt mark : Int32) (vu : Int64) (cap : Nat) (keys : Nat → Int64) (sta bas obj f wa dp ln mk pt sl : Nat → Int32) : Con l y_Rd_latestFaultPlace M_Rd_latestFaultPlace 0 0 [.ref 0] (rdH lev hel res lf lp sta bas obj nx sa kn vu f wa len cap keys dp ln mk pt sl cnt mark) 15 0 0 0 (fun r h' => r = some (.int lp) ∧ h' = rdH lev hel res lf lp sta bas obj nx sa kn vu f wa len cap keys dp ln mk pt sl cnt mark) := by
  refine Con.ent ok_Rd_latestFaultPlace (by decide +kernel) rfl ?_
  intro pA eA sA mA argsA belowA methA cA GA μA
  refine aw_go 2 4 [some (.ref 0)] [.int lp] (rdH lev hel res lf lp sta bas obj nx sa kn vu f wa len cap keys dp ln mk pt sl cnt mark) rfl ?_
  exact aw_iret rfl rfl rfl ⟨rfl, rfl⟩ rfl (Nat.le_refl _) (Nat.le_refl _) -- [.int lp] (rdH lev hel res lf lp sta bas obj nx sa kn vu f wa len cap keys dp ln mk pt sl cnt mark)
set_option maxHeartbeats 2000000 in
set_option maxRecDepth 100000 in
theorem c_Rd_mostNewObjects (l : Launch) (lev hel res lf lp nx sa kn cnt mark : Int32) (vu : Int64) (cap : Nat) (keys : Nat → Int64) (sta bas obj f wa dp ln mk pt sl : Nat → Int32) (L : Nat) (hL : L ≤ 3000) : Con l y_Rd_mostNewObjects M_Rd_mostNewObjects 1 21 [.ref 0] (rdH lev hel res lf lp sta bas obj nx sa kn vu f wa (nI L) cap keys dp ln mk pt sl cnt mark) 15 0 0 0 (fun r h' => r = some (.int (nI (2 * min L 1000))) ∧ h' = rdH lev hel res lf lp sta bas obj nx sa kn vu f wa (nI L) cap keys dp ln mk pt sl cnt mark) := by
  refine Con.ent ok_Rd_mostNewObjects (by decide +kernel) rfl ?_
  intro pA eA sA mA argsA belowA methA cA GA μA
  refine aw_go 3 5 [some (.ref 0)] [.ref 2, .int 2] (rdH lev hel res lf lp sta bas obj nx sa kn vu f wa (nI L) cap keys dp ln mk pt sl cnt mark) rfl ?_
  refine aw_cV [2, 3, 4] (c_Tx_length l f wa L) rfl cw_Rd_50 rfl rfl rfl rfl rfl rfl (Nat.le_refl _) (Nat.le_refl _) (fun r h' hp => ?_)
  obtain ⟨rfl, rfl⟩ := hp
  refine aw_go 1 11 [some (.ref 0)] [.int 1000, .int (nI L), .int 2] (rdH lev hel res lf lp sta bas obj nx sa kn vu f wa (nI L) cap keys dp ln mk pt sl cnt mark) rfl ?_
  refine aw_min rfl (by decide +kernel) (Nat.le_of_ble_eq_true rfl) (Nat.le_of_ble_eq_true rfl) (Nat.le_of_ble_eq_true rfl) (Nat.le_refl _) (Nat.le_refl _) ?_
  refine aw_go 1 15 [some (.ref 0)] [.int (2 * (if 1000 < (nI L) then 1000 else (nI L)))] (rdH lev hel res lf lp sta bas obj nx sa kn vu f wa (nI L) cap keys dp ln mk pt sl cnt mark) rfl ?_
  exact aw_iret rfl rfl rfl ⟨by rw [rd_mn hL], rfl⟩ rfl (Nat.le_refl _) (Nat.le_refl _) -- [.int (2 * (if 1000 < (nI L) then 1000 else (nI L)))] (rdH lev hel res lf lp sta bas obj nx sa kn vu f wa (nI L) cap keys dp ln mk pt sl cnt mark)
