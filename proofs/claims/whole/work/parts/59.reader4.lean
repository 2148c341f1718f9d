/-! Reader: faultOf -/
def rd_fl (k : Nat) (vu : Int64) (lv sg nth : Nat) : Nat := if k = 1 then 1 else if (k = 6 ∨ k = 7) ∧ vu = -1 then 2 else if rd_cs k sg = false then 3 else if (k = 2 ∨ k = 4) ∧ 40 ≤ lv then 4 else if k ≠ 0 ∧ 1000 < nth then 5 else 0
theorem rb_t {b : Bool} (h : ¬ rb b = 0) : b = true := by
  cases b with
  | true => rfl
  | false => exact absurd rfl h
theorem rb_f {b : Bool} (h : rb b = 0) : b = false := by
  cases b with
  | false => rfl
  | true => exact absurd h (by decide)
set_option maxHeartbeats 2000000 in
set_option maxRecDepth 100000 in
theorem c_Rd_faultOf_0 (l : Launch) (hel res lf lp nx sa kn len cnt mark : Int32) (vu : Int64) (cap : Nat) (keys : Nat → Int64) (sta bas obj f wa dp ln mk pt sl : Nat → Int32) (lv : Nat) (hlv : lv ≤ 40) (sg nth : Nat) (hs : sg < 7) (hsg : sta lv = nI sg) (hnth : nth ≤ 1001) : Con l y_Rd_faultOf M_Rd_faultOf 3 62 [.ref 0, .int 0, .int (nI nth)] (rdH (nI lv) hel res lf lp sta bas obj nx sa kn vu f wa len cap keys dp ln mk pt sl cnt mark) 15 0 0 0 (fun r h' => r = some (.int (nI (rd_fl 0 vu lv sg nth))) ∧ h' = rdH (nI lv) hel res lf lp sta bas obj nx sa kn vu f wa len cap keys dp ln mk pt sl cnt mark) := by
  refine Con.ent ok_Rd_faultOf (by decide +kernel) rfl ?_
  intro pA eA sA mA argsA belowA methA cA GA μA
  refine aw_go 2 2 [some (.ref 0), some (.int 0), some (.int (nI nth))] [.int 1, .int 0] (rdH (nI lv) hel res lf lp sta bas obj nx sa kn vu f wa len cap keys dp ln mk pt sl cnt mark) rfl ?_
  refine aw_cmp_ne rfl (fun h2 => ?_) (fun h2 => absurd h2 (by decide))
  refine aw_go 2 10 [some (.ref 0), some (.int 0), some (.int (nI nth))] [.int 6, .int 0] (rdH (nI lv) hel res lf lp sta bas obj nx sa kn vu f wa len cap keys dp ln mk pt sl cnt mark) rfl ?_
  refine aw_cmp_eq rfl (fun h10 => absurd h10 (by decide)) (fun h10 => ?_)
  refine aw_go 2 16 [some (.ref 0), some (.int 0), some (.int (nI nth))] [.int 7, .int 0] (rdH (nI lv) hel res lf lp sta bas obj nx sa kn vu f wa len cap keys dp ln mk pt sl cnt mark) rfl ?_
  refine aw_cmp_ne rfl (fun h16 => ?_) (fun h16 => absurd h16 (by decide))
  refine aw_go 2 37 [some (.ref 0), some (.int 0), some (.int (nI nth))] [.int 0, .ref 0] (rdH (nI lv) hel res lf lp sta bas obj nx sa kn vu f wa len cap keys dp ln mk pt sl cnt mark) rfl ?_
  refine aw_cV [0, 1, 2, 3, 4, 5, 6, 7, 8, 9, 10, 11, 12, 13, 14] (c_Rd_canStand l hel res lf lp nx sa kn len cnt mark vu cap keys sta bas obj f wa dp ln mk pt sl lv hlv 0 sg (by omega) hs hsg) rfl cw_Rd_92 rfl rfl rfl rfl rfl rfl (Nat.le_refl _) (Nat.le_refl _) (fun r h' hp => ?_)
  obtain ⟨rfl, rfl⟩ := hp
  refine aw_go 0 40 [some (.ref 0), some (.int 0), some (.int (nI nth))] [.int (rb (rd_cs 0 sg))] (rdH (nI lv) hel res lf lp sta bas obj nx sa kn vu f wa len cap keys dp ln mk pt sl cnt mark) rfl ?_
  refine aw_if_ne rfl (fun h40 => ?_) (fun h40 => ?_)
  · refine aw_go 2 47 [some (.ref 0), some (.int 0), some (.int (nI nth))] [.int 2, .int 0] (rdH (nI lv) hel res lf lp sta bas obj nx sa kn vu f wa len cap keys dp ln mk pt sl cnt mark) rfl ?_
    refine aw_cmp_eq rfl (fun h47 => absurd h47 (by decide)) (fun h47 => ?_)
    refine aw_go 2 52 [some (.ref 0), some (.int 0), some (.int (nI nth))] [.int 4, .int 0] (rdH (nI lv) hel res lf lp sta bas obj nx sa kn vu f wa len cap keys dp ln mk pt sl cnt mark) rfl ?_
    refine aw_cmp_ne rfl (fun h52 => ?_) (fun h52 => absurd h52 (by decide))
    refine aw_go 1 67 [some (.ref 0), some (.int 0), some (.int (nI nth))] [.int 0] (rdH (nI lv) hel res lf lp sta bas obj nx sa kn vu f wa len cap keys dp ln mk pt sl cnt mark) rfl ?_
    refine aw_if_eq rfl (fun h67 => ?_) (fun h67 => absurd h67 (by decide))
    refine aw_go 1 82 [some (.ref 0), some (.int 0), some (.int (nI nth))] [.int 0] (rdH (nI lv) hel res lf lp sta bas obj nx sa kn vu f wa len cap keys dp ln mk pt sl cnt mark) rfl ?_
    exact aw_iret rfl rfl rfl ⟨by rw [show rd_fl 0 vu lv sg nth = 0 from (by have f2 : rd_cs 0 sg = true := rb_t h40; unfold rd_fl; simp [*])]; rfl, rfl⟩ rfl (Nat.le_refl _) (Nat.le_refl _) -- [.int 0] (rdH (nI lv) hel res lf lp sta bas obj nx sa kn vu f wa len cap keys dp ln mk pt sl cnt mark)
  · refine aw_go 1 44 [some (.ref 0), some (.int 0), some (.int (nI nth))] [.int 3] (rdH (nI lv) hel res lf lp sta bas obj nx sa kn vu f wa len cap keys dp ln mk pt sl cnt mark) rfl ?_
    exact aw_iret rfl rfl rfl ⟨by rw [show rd_fl 0 vu lv sg nth = 3 from (by have f2 : rd_cs 0 sg = false := rb_f h40; unfold rd_fl; simp [*])]; rfl, rfl⟩ rfl (Nat.le_refl _) (Nat.le_refl _) -- [.int 3] (rdH (nI lv) hel res lf lp sta bas obj nx sa kn vu f wa len cap keys dp ln mk pt sl cnt mark)
set_option maxHeartbeats 2000000 in
set_option maxRecDepth 100000 in
theorem c_Rd_faultOf_1 (l : Launch) (hel res lf lp nx sa kn len cnt mark : Int32) (vu : Int64) (cap : Nat) (keys : Nat → Int64) (sta bas obj f wa dp ln mk pt sl : Nat → Int32) (lv : Nat) (hlv : lv ≤ 40) (sg nth : Nat) (hs : sg < 7) (hsg : sta lv = nI sg) (hnth : nth ≤ 1001) : Con l y_Rd_faultOf M_Rd_faultOf 3 62 [.ref 0, .int 1, .int (nI nth)] (rdH (nI lv) hel res lf lp sta bas obj nx sa kn vu f wa len cap keys dp ln mk pt sl cnt mark) 15 0 0 0 (fun r h' => r = some (.int (nI (rd_fl 1 vu lv sg nth))) ∧ h' = rdH (nI lv) hel res lf lp sta bas obj nx sa kn vu f wa len cap keys dp ln mk pt sl cnt mark) := by
  refine Con.ent ok_Rd_faultOf (by decide +kernel) rfl ?_
  intro pA eA sA mA argsA belowA methA cA GA μA
  refine aw_go 2 2 [some (.ref 0), some (.int 1), some (.int (nI nth))] [.int 1, .int 1] (rdH (nI lv) hel res lf lp sta bas obj nx sa kn vu f wa len cap keys dp ln mk pt sl cnt mark) rfl ?_
  refine aw_cmp_ne rfl (fun h2 => absurd h2 (by decide)) (fun h2 => ?_)
  refine aw_go 1 6 [some (.ref 0), some (.int 1), some (.int (nI nth))] [.int 1] (rdH (nI lv) hel res lf lp sta bas obj nx sa kn vu f wa len cap keys dp ln mk pt sl cnt mark) rfl ?_
  exact aw_iret rfl rfl rfl ⟨by rw [show rd_fl 1 vu lv sg nth = 1 from (by unfold rd_fl; simp [*])]; rfl, rfl⟩ rfl (Nat.le_refl _) (Nat.le_refl _) -- [.int 1] (rdH (nI lv) hel res lf lp sta bas obj nx sa kn vu f wa len cap keys dp ln mk pt sl cnt mark)
set_option maxHeartbeats 2000000 in
set_option maxRecDepth 100000 in
theorem c_Rd_faultOf_2 (l : Launch) (hel res lf lp nx sa kn len cnt mark : Int32) (vu : Int64) (cap : Nat) (keys : Nat → Int64) (sta bas obj f wa dp ln mk pt sl : Nat → Int32) (lv : Nat) (hlv : lv ≤ 40) (sg nth : Nat) (hs : sg < 7) (hsg : sta lv = nI sg) (hnth : nth ≤ 1001) : Con l y_Rd_faultOf M_Rd_faultOf 3 62 [.ref 0, .int 2, .int (nI nth)] (rdH (nI lv) hel res lf lp sta bas obj nx sa kn vu f wa len cap keys dp ln mk pt sl cnt mark) 15 0 0 0 (fun r h' => r = some (.int (nI (rd_fl 2 vu lv sg nth))) ∧ h' = rdH (nI lv) hel res lf lp sta bas obj nx sa kn vu f wa len cap keys dp ln mk pt sl cnt mark) := by
  refine Con.ent ok_Rd_faultOf (by decide +kernel) rfl ?_
  intro pA eA sA mA argsA belowA methA cA GA μA
  refine aw_go 2 2 [some (.ref 0), some (.int 2), some (.int (nI nth))] [.int 1, .int 2] (rdH (nI lv) hel res lf lp sta bas obj nx sa kn vu f wa len cap keys dp ln mk pt sl cnt mark) rfl ?_
  refine aw_cmp_ne rfl (fun h2 => ?_) (fun h2 => absurd h2 (by decide))
  refine aw_go 2 10 [some (.ref 0), some (.int 2), some (.int (nI nth))] [.int 6, .int 2] (rdH (nI lv) hel res lf lp sta bas obj nx sa kn vu f wa len cap keys dp ln mk pt sl cnt mark) rfl ?_
  refine aw_cmp_eq rfl (fun h10 => absurd h10 (by decide)) (fun h10 => ?_)
  refine aw_go 2 16 [some (.ref 0), some (.int 2), some (.int (nI nth))] [.int 7, .int 2] (rdH (nI lv) hel res lf lp sta bas obj nx sa kn vu f wa len cap keys dp ln mk pt sl cnt mark) rfl ?_
  refine aw_cmp_ne rfl (fun h16 => ?_) (fun h16 => absurd h16 (by decide))
  refine aw_go 2 37 [some (.ref 0), some (.int 2), some (.int (nI nth))] [.int 2, .ref 0] (rdH (nI lv) hel res lf lp sta bas obj nx sa kn vu f wa len cap keys dp ln mk pt sl cnt mark) rfl ?_
  refine aw_cV [0, 1, 2, 3, 4, 5, 6, 7, 8, 9, 10, 11, 12, 13, 14] (c_Rd_canStand l hel res lf lp nx sa kn len cnt mark vu cap keys sta bas obj f wa dp ln mk pt sl lv hlv 2 sg (by omega) hs hsg) rfl cw_Rd_92 rfl rfl rfl rfl rfl rfl (Nat.le_refl _) (Nat.le_refl _) (fun r h' hp => ?_)
  obtain ⟨rfl, rfl⟩ := hp
  refine aw_go 0 40 [some (.ref 0), some (.int 2), some (.int (nI nth))] [.int (rb (rd_cs 2 sg))] (rdH (nI lv) hel res lf lp sta bas obj nx sa kn vu f wa len cap keys dp ln mk pt sl cnt mark) rfl ?_
  refine aw_if_ne rfl (fun h40 => ?_) (fun h40 => ?_)
  · refine aw_go 2 47 [some (.ref 0), some (.int 2), some (.int (nI nth))] [.int 2, .int 2] (rdH (nI lv) hel res lf lp sta bas obj nx sa kn vu f wa len cap keys dp ln mk pt sl cnt mark) rfl ?_
    refine aw_cmp_eq rfl (fun h47 => ?_) (fun h47 => absurd h47 (by decide))
    refine aw_go 3 61 [some (.ref 0), some (.int 2), some (.int (nI nth))] [.int 40, .int (nI lv)] (rdH (nI lv) hel res lf lp sta bas obj nx sa kn vu f wa len cap keys dp ln mk pt sl cnt mark) rfl ?_
    refine aw_cmp_lt rfl (fun h61 => ?_) (fun h61 => ?_)
    · refine aw_go 1 67 [some (.ref 0), some (.int 2), some (.int (nI nth))] [.int 2] (rdH (nI lv) hel res lf lp sta bas obj nx sa kn vu f wa len cap keys dp ln mk pt sl cnt mark) rfl ?_
      refine aw_if_eq rfl (fun h67 => absurd h67 (by decide)) (fun h67 => ?_)
      refine aw_go 2 74 [some (.ref 0), some (.int 2), some (.int (nI nth))] [.int 1000, .int (nI nth)] (rdH (nI lv) hel res lf lp sta bas obj nx sa kn vu f wa len cap keys dp ln mk pt sl cnt mark) rfl ?_
      refine aw_cmp_le rfl (fun h74 => ?_) (fun h74 => ?_)
      · refine aw_go 1 82 [some (.ref 0), some (.int 2), some (.int (nI nth))] [.int 0] (rdH (nI lv) hel res lf lp sta bas obj nx sa kn vu f wa len cap keys dp ln mk pt sl cnt mark) rfl ?_
        exact aw_iret rfl rfl rfl ⟨by rw [show rd_fl 2 vu lv sg nth = 0 from (by have f2 : rd_cs 2 sg = true := rb_t h40; have f3 : lv < 40 := (nI_ltI (b := 40) (by omega) (by omega)).mp h61; have f4 : ¬ 40 ≤ lv := (by omega); have f5 : ¬ 1000 < nth := (by have h9 := (nI_leI (b := 1000) (by omega) (by omega)).mp h74; omega); unfold rd_fl; simp [*])]; rfl, rfl⟩ rfl (Nat.le_refl _) (Nat.le_refl _) -- [.int 0] (rdH (nI lv) hel res lf lp sta bas obj nx sa kn vu f wa len cap keys dp ln mk pt sl cnt mark)
      · refine aw_go 2 82 [some (.ref 0), some (.int 2), some (.int (nI nth))] [.int 5] (rdH (nI lv) hel res lf lp sta bas obj nx sa kn vu f wa len cap keys dp ln mk pt sl cnt mark) rfl ?_
        exact aw_iret rfl rfl rfl ⟨by rw [show rd_fl 2 vu lv sg nth = 5 from (by have f2 : rd_cs 2 sg = true := rb_t h40; have f3 : lv < 40 := (nI_ltI (b := 40) (by omega) (by omega)).mp h61; have f4 : ¬ 40 ≤ lv := (by omega); have f5 : 1000 < nth := (by have h9 : ¬ nth ≤ 1000 := (fun z => h74 (nI_le (b := 1000) z (by omega))); omega); unfold rd_fl; simp [*])]; rfl, rfl⟩ rfl (Nat.le_refl _) (Nat.le_refl _) -- [.int 5] (rdH (nI lv) hel res lf lp sta bas obj nx sa kn vu f wa len cap keys dp ln mk pt sl cnt mark)
    · refine aw_go 1 65 [some (.ref 0), some (.int 2), some (.int (nI nth))] [.int 4] (rdH (nI lv) hel res lf lp sta bas obj nx sa kn vu f wa len cap keys dp ln mk pt sl cnt mark) rfl ?_
      exact aw_iret rfl rfl rfl ⟨by rw [show rd_fl 2 vu lv sg nth = 4 from (by have f2 : rd_cs 2 sg = true := rb_t h40; have f4 : 40 ≤ lv := (by have h9 : ¬ lv < 40 := (fun z => h61 (nI_lt (b := 40) z (by omega))); omega); unfold rd_fl; simp [*])]; rfl, rfl⟩ rfl (Nat.le_refl _) (Nat.le_refl _) -- [.int 4] (rdH (nI lv) hel res lf lp sta bas obj nx sa kn vu f wa len cap keys dp ln mk pt sl cnt mark)
  · refine aw_go 1 44 [some (.ref 0), some (.int 2), some (.int (nI nth))] [.int 3] (rdH (nI lv) hel res lf lp sta bas obj nx sa kn vu f wa len cap keys dp ln mk pt sl cnt mark) rfl ?_
    exact aw_iret rfl rfl rfl ⟨by rw [show rd_fl 2 vu lv sg nth = 3 from (by have f2 : rd_cs 2 sg = false := rb_f h40; unfold rd_fl; simp [*])]; rfl, rfl⟩ rfl (Nat.le_refl _) (Nat.le_refl _) -- [.int 3] (rdH (nI lv) hel res lf lp sta bas obj nx sa kn vu f wa len cap keys dp ln mk pt sl cnt mark)
set_option maxHeartbeats 2000000 in
set_option maxRecDepth 100000 in
theorem c_Rd_faultOf_3 (l : Launch) (hel res lf lp nx sa kn len cnt mark : Int32) (vu : Int64) (cap : Nat) (keys : Nat → Int64) (sta bas obj f wa dp ln mk pt sl : Nat → Int32) (lv : Nat) (hlv : lv ≤ 40) (sg nth : Nat) (hs : sg < 7) (hsg : sta lv = nI sg) (hnth : nth ≤ 1001) : Con l y_Rd_faultOf M_Rd_faultOf 3 62 [.ref 0, .int 3, .int (nI nth)] (rdH (nI lv) hel res lf lp sta bas obj nx sa kn vu f wa len cap keys dp ln mk pt sl cnt mark) 15 0 0 0 (fun r h' => r = some (.int (nI (rd_fl 3 vu lv sg nth))) ∧ h' = rdH (nI lv) hel res lf lp sta bas obj nx sa kn vu f wa len cap keys dp ln mk pt sl cnt mark) := by
  refine Con.ent ok_Rd_faultOf (by decide +kernel) rfl ?_
  intro pA eA sA mA argsA belowA methA cA GA μA
  refine aw_go 2 2 [some (.ref 0), some (.int 3), some (.int (nI nth))] [.int 1, .int 3] (rdH (nI lv) hel res lf lp sta bas obj nx sa kn vu f wa len cap keys dp ln mk pt sl cnt mark) rfl ?_
  refine aw_cmp_ne rfl (fun h2 => ?_) (fun h2 => absurd h2 (by decide))
  refine aw_go 2 10 [some (.ref 0), some (.int 3), some (.int (nI nth))] [.int 6, .int 3] (rdH (nI lv) hel res lf lp sta bas obj nx sa kn vu f wa len cap keys dp ln mk pt sl cnt mark) rfl ?_
  refine aw_cmp_eq rfl (fun h10 => absurd h10 (by decide)) (fun h10 => ?_)
  refine aw_go 2 16 [some (.ref 0), some (.int 3), some (.int (nI nth))] [.int 7, .int 3] (rdH (nI lv) hel res lf lp sta bas obj nx sa kn vu f wa len cap keys dp ln mk pt sl cnt mark) rfl ?_
  refine aw_cmp_ne rfl (fun h16 => ?_) (fun h16 => absurd h16 (by decide))
  refine aw_go 2 37 [some (.ref 0), some (.int 3), some (.int (nI nth))] [.int 3, .ref 0] (rdH (nI lv) hel res lf lp sta bas obj nx sa kn vu f wa len cap keys dp ln mk pt sl cnt mark) rfl ?_
  refine aw_cV [0, 1, 2, 3, 4, 5, 6, 7, 8, 9, 10, 11, 12, 13, 14] (c_Rd_canStand l hel res lf lp nx sa kn len cnt mark vu cap keys sta bas obj f wa dp ln mk pt sl lv hlv 3 sg (by omega) hs hsg) rfl cw_Rd_92 rfl rfl rfl rfl rfl rfl (Nat.le_refl _) (Nat.le_refl _) (fun r h' hp => ?_)
  obtain ⟨rfl, rfl⟩ := hp
  refine aw_go 0 40 [some (.ref 0), some (.int 3), some (.int (nI nth))] [.int (rb (rd_cs 3 sg))] (rdH (nI lv) hel res lf lp sta bas obj nx sa kn vu f wa len cap keys dp ln mk pt sl cnt mark) rfl ?_
  refine aw_if_ne rfl (fun h40 => ?_) (fun h40 => ?_)
  · refine aw_go 2 47 [some (.ref 0), some (.int 3), some (.int (nI nth))] [.int 2, .int 3] (rdH (nI lv) hel res lf lp sta bas obj nx sa kn vu f wa len cap keys dp ln mk pt sl cnt mark) rfl ?_
    refine aw_cmp_eq rfl (fun h47 => absurd h47 (by decide)) (fun h47 => ?_)
    refine aw_go 2 52 [some (.ref 0), some (.int 3), some (.int (nI nth))] [.int 4, .int 3] (rdH (nI lv) hel res lf lp sta bas obj nx sa kn vu f wa len cap keys dp ln mk pt sl cnt mark) rfl ?_
    refine aw_cmp_ne rfl (fun h52 => ?_) (fun h52 => absurd h52 (by decide))
    refine aw_go 1 67 [some (.ref 0), some (.int 3), some (.int (nI nth))] [.int 3] (rdH (nI lv) hel res lf lp sta bas obj nx sa kn vu f wa len cap keys dp ln mk pt sl cnt mark) rfl ?_
    refine aw_if_eq rfl (fun h67 => absurd h67 (by decide)) (fun h67 => ?_)
    refine aw_go 2 74 [some (.ref 0), some (.int 3), some (.int (nI nth))] [.int 1000, .int (nI nth)] (rdH (nI lv) hel res lf lp sta bas obj nx sa kn vu f wa len cap keys dp ln mk pt sl cnt mark) rfl ?_
    refine aw_cmp_le rfl (fun h74 => ?_) (fun h74 => ?_)
    · refine aw_go 1 82 [some (.ref 0), some (.int 3), some (.int (nI nth))] [.int 0] (rdH (nI lv) hel res lf lp sta bas obj nx sa kn vu f wa len cap keys dp ln mk pt sl cnt mark) rfl ?_
      exact aw_iret rfl rfl rfl ⟨by rw [show rd_fl 3 vu lv sg nth = 0 from (by have f2 : rd_cs 3 sg = true := rb_t h40; have f5 : ¬ 1000 < nth := (by have h9 := (nI_leI (b := 1000) (by omega) (by omega)).mp h74; omega); unfold rd_fl; simp [*])]; rfl, rfl⟩ rfl (Nat.le_refl _) (Nat.le_refl _) -- [.int 0] (rdH (nI lv) hel res lf lp sta bas obj nx sa kn vu f wa len cap keys dp ln mk pt sl cnt mark)
    · refine aw_go 2 82 [some (.ref 0), some (.int 3), some (.int (nI nth))] [.int 5] (rdH (nI lv) hel res lf lp sta bas obj nx sa kn vu f wa len cap keys dp ln mk pt sl cnt mark) rfl ?_
      exact aw_iret rfl rfl rfl ⟨by rw [show rd_fl 3 vu lv sg nth = 5 from (by have f2 : rd_cs 3 sg = true := rb_t h40; have f5 : 1000 < nth := (by have h9 : ¬ nth ≤ 1000 := (fun z => h74 (nI_le (b := 1000) z (by omega))); omega); unfold rd_fl; simp [*])]; rfl, rfl⟩ rfl (Nat.le_refl _) (Nat.le_refl _) -- [.int 5] (rdH (nI lv) hel res lf lp sta bas obj nx sa kn vu f wa len cap keys dp ln mk pt sl cnt mark)
  · refine aw_go 1 44 [some (.ref 0), some (.int 3), some (.int (nI nth))] [.int 3] (rdH (nI lv) hel res lf lp sta bas obj nx sa kn vu f wa len cap keys dp ln mk pt sl cnt mark) rfl ?_
    exact aw_iret rfl rfl rfl ⟨by rw [show rd_fl 3 vu lv sg nth = 3 from (by have f2 : rd_cs 3 sg = false := rb_f h40; unfold rd_fl; simp [*])]; rfl, rfl⟩ rfl (Nat.le_refl _) (Nat.le_refl _) -- [.int 3] (rdH (nI lv) hel res lf lp sta bas obj nx sa kn vu f wa len cap keys dp ln mk pt sl cnt mark)
set_option maxHeartbeats 2000000 in
set_option maxRecDepth 100000 in
theorem c_Rd_faultOf_4 (l : Launch) (hel res lf lp nx sa kn len cnt mark : Int32) (vu : Int64) (cap : Nat) (keys : Nat → Int64) (sta bas obj f wa dp ln mk pt sl : Nat → Int32) (lv : Nat) (hlv : lv ≤ 40) (sg nth : Nat) (hs : sg < 7) (hsg : sta lv = nI sg) (hnth : nth ≤ 1001) : Con l y_Rd_faultOf M_Rd_faultOf 3 62 [.ref 0, .int 4, .int (nI nth)] (rdH (nI lv) hel res lf lp sta bas obj nx sa kn vu f wa len cap keys dp ln mk pt sl cnt mark) 15 0 0 0 (fun r h' => r = some (.int (nI (rd_fl 4 vu lv sg nth))) ∧ h' = rdH (nI lv) hel res lf lp sta bas obj nx sa kn vu f wa len cap keys dp ln mk pt sl cnt mark) := by
  refine Con.ent ok_Rd_faultOf (by decide +kernel) rfl ?_
  intro pA eA sA mA argsA belowA methA cA GA μA
  refine aw_go 2 2 [some (.ref 0), some (.int 4), some (.int (nI nth))] [.int 1, .int 4] (rdH (nI lv) hel res lf lp sta bas obj nx sa kn vu f wa len cap keys dp ln mk pt sl cnt mark) rfl ?_
  refine aw_cmp_ne rfl (fun h2 => ?_) (fun h2 => absurd h2 (by decide))
  refine aw_go 2 10 [some (.ref 0), some (.int 4), some (.int (nI nth))] [.int 6, .int 4] (rdH (nI lv) hel res lf lp sta bas obj nx sa kn vu f wa len cap keys dp ln mk pt sl cnt mark) rfl ?_
  refine aw_cmp_eq rfl (fun h10 => absurd h10 (by decide)) (fun h10 => ?_)
  refine aw_go 2 16 [some (.ref 0), some (.int 4), some (.int (nI nth))] [.int 7, .int 4] (rdH (nI lv) hel res lf lp sta bas obj nx sa kn vu f wa len cap keys dp ln mk pt sl cnt mark) rfl ?_
  refine aw_cmp_ne rfl (fun h16 => ?_) (fun h16 => absurd h16 (by decide))
  refine aw_go 2 37 [some (.ref 0), some (.int 4), some (.int (nI nth))] [.int 4, .ref 0] (rdH (nI lv) hel res lf lp sta bas obj nx sa kn vu f wa len cap keys dp ln mk pt sl cnt mark) rfl ?_
  refine aw_cV [0, 1, 2, 3, 4, 5, 6, 7, 8, 9, 10, 11, 12, 13, 14] (c_Rd_canStand l hel res lf lp nx sa kn len cnt mark vu cap keys sta bas obj f wa dp ln mk pt sl lv hlv 4 sg (by omega) hs hsg) rfl cw_Rd_92 rfl rfl rfl rfl rfl rfl (Nat.le_refl _) (Nat.le_refl _) (fun r h' hp => ?_)
  obtain ⟨rfl, rfl⟩ := hp
  refine aw_go 0 40 [some (.ref 0), some (.int 4), some (.int (nI nth))] [.int (rb (rd_cs 4 sg))] (rdH (nI lv) hel res lf lp sta bas obj nx sa kn vu f wa len cap keys dp ln mk pt sl cnt mark) rfl ?_
  refine aw_if_ne rfl (fun h40 => ?_) (fun h40 => ?_)
  · refine aw_go 2 47 [some (.ref 0), some (.int 4), some (.int (nI nth))] [.int 2, .int 4] (rdH (nI lv) hel res lf lp sta bas obj nx sa kn vu f wa len cap keys dp ln mk pt sl cnt mark) rfl ?_
    refine aw_cmp_eq rfl (fun h47 => absurd h47 (by decide)) (fun h47 => ?_)
    refine aw_go 2 52 [some (.ref 0), some (.int 4), some (.int (nI nth))] [.int 4, .int 4] (rdH (nI lv) hel res lf lp sta bas obj nx sa kn vu f wa len cap keys dp ln mk pt sl cnt mark) rfl ?_
    refine aw_cmp_ne rfl (fun h52 => absurd h52 (by decide)) (fun h52 => ?_)
    refine aw_go 3 61 [some (.ref 0), some (.int 4), some (.int (nI nth))] [.int 40, .int (nI lv)] (rdH (nI lv) hel res lf lp sta bas obj nx sa kn vu f wa len cap keys dp ln mk pt sl cnt mark) rfl ?_
    refine aw_cmp_lt rfl (fun h61 => ?_) (fun h61 => ?_)
    · refine aw_go 1 67 [some (.ref 0), some (.int 4), some (.int (nI nth))] [.int 4] (rdH (nI lv) hel res lf lp sta bas obj nx sa kn vu f wa len cap keys dp ln mk pt sl cnt mark) rfl ?_
      refine aw_if_eq rfl (fun h67 => absurd h67 (by decide)) (fun h67 => ?_)
      refine aw_go 2 74 [some (.ref 0), some (.int 4), some (.int (nI nth))] [.int 1000, .int (nI nth)] (rdH (nI lv) hel res lf lp sta bas obj nx sa kn vu f wa len cap keys dp ln mk pt sl cnt mark) rfl ?_
      refine aw_cmp_le rfl (fun h74 => ?_) (fun h74 => ?_)
      · refine aw_go 1 82 [some (.ref 0), some (.int 4), some (.int (nI nth))] [.int 0] (rdH (nI lv) hel res lf lp sta bas obj nx sa kn vu f wa len cap keys dp ln mk pt sl cnt mark) rfl ?_
        exact aw_iret rfl rfl rfl ⟨by rw [show rd_fl 4 vu lv sg nth = 0 from (by have f2 : rd_cs 4 sg = true := rb_t h40; have f3 : lv < 40 := (nI_ltI (b := 40) (by omega) (by omega)).mp h61; have f4 : ¬ 40 ≤ lv := (by omega); have f5 : ¬ 1000 < nth := (by have h9 := (nI_leI (b := 1000) (by omega) (by omega)).mp h74; omega); unfold rd_fl; simp [*])]; rfl, rfl⟩ rfl (Nat.le_refl _) (Nat.le_refl _) -- [.int 0] (rdH (nI lv) hel res lf lp sta bas obj nx sa kn vu f wa len cap keys dp ln mk pt sl cnt mark)
      · refine aw_go 2 82 [some (.ref 0), some (.int 4), some (.int (nI nth))] [.int 5] (rdH (nI lv) hel res lf lp sta bas obj nx sa kn vu f wa len cap keys dp ln mk pt sl cnt mark) rfl ?_
        exact aw_iret rfl rfl rfl ⟨by rw [show rd_fl 4 vu lv sg nth = 5 from (by have f2 : rd_cs 4 sg = true := rb_t h40; have f3 : lv < 40 := (nI_ltI (b := 40) (by omega) (by omega)).mp h61; have f4 : ¬ 40 ≤ lv := (by omega); have f5 : 1000 < nth := (by have h9 : ¬ nth ≤ 1000 := (fun z => h74 (nI_le (b := 1000) z (by omega))); omega); unfold rd_fl; simp [*])]; rfl, rfl⟩ rfl (Nat.le_refl _) (Nat.le_refl _) -- [.int 5] (rdH (nI lv) hel res lf lp sta bas obj nx sa kn vu f wa len cap keys dp ln mk pt sl cnt mark)
    · refine aw_go 1 65 [some (.ref 0), some (.int 4), some (.int (nI nth))] [.int 4] (rdH (nI lv) hel res lf lp sta bas obj nx sa kn vu f wa len cap keys dp ln mk pt sl cnt mark) rfl ?_
      exact aw_iret rfl rfl rfl ⟨by rw [show rd_fl 4 vu lv sg nth = 4 from (by have f2 : rd_cs 4 sg = true := rb_t h40; have f4 : 40 ≤ lv := (by have h9 : ¬ lv < 40 := (fun z => h61 (nI_lt (b := 40) z (by omega))); omega); unfold rd_fl; simp [*])]; rfl, rfl⟩ rfl (Nat.le_refl _) (Nat.le_refl _) -- [.int 4] (rdH (nI lv) hel res lf lp sta bas obj nx sa kn vu f wa len cap keys dp ln mk pt sl cnt mark)
  · refine aw_go 1 44 [some (.ref 0), some (.int 4), some (.int (nI nth))] [.int 3] (rdH (nI lv) hel res lf lp sta bas obj nx sa kn vu f wa len cap keys dp ln mk pt sl cnt mark) rfl ?_
    exact aw_iret rfl rfl rfl ⟨by rw [show rd_fl 4 vu lv sg nth = 3 from (by have f2 : rd_cs 4 sg = false := rb_f h40; unfold rd_fl; simp [*])]; rfl, rfl⟩ rfl (Nat.le_refl _) (Nat.le_refl _) -- [.int 3] (rdH (nI lv) hel res lf lp sta bas obj nx sa kn vu f wa len cap keys dp ln mk pt sl cnt mark)
set_option maxHeartbeats 2000000 in
set_option maxRecDepth 100000 in
theorem c_Rd_faultOf_5 (l : Launch) (hel res lf lp nx sa kn len cnt mark : Int32) (vu : Int64) (cap : Nat) (keys : Nat → Int64) (sta bas obj f wa dp ln mk pt sl : Nat → Int32) (lv : Nat) (hlv : lv ≤ 40) (sg nth : Nat) (hs : sg < 7) (hsg : sta lv = nI sg) (hnth : nth ≤ 1001) : Con l y_Rd_faultOf M_Rd_faultOf 3 62 [.ref 0, .int 5, .int (nI nth)] (rdH (nI lv) hel res lf lp sta bas obj nx sa kn vu f wa len cap keys dp ln mk pt sl cnt mark) 15 0 0 0 (fun r h' => r = some (.int (nI (rd_fl 5 vu lv sg nth))) ∧ h' = rdH (nI lv) hel res lf lp sta bas obj nx sa kn vu f wa len cap keys dp ln mk pt sl cnt mark) := by
  refine Con.ent ok_Rd_faultOf (by decide +kernel) rfl ?_
  intro pA eA sA mA argsA belowA methA cA GA μA
  refine aw_go 2 2 [some (.ref 0), some (.int 5), some (.int (nI nth))] [.int 1, .int 5] (rdH (nI lv) hel res lf lp sta bas obj nx sa kn vu f wa len cap keys dp ln mk pt sl cnt mark) rfl ?_
  refine aw_cmp_ne rfl (fun h2 => ?_) (fun h2 => absurd h2 (by decide))
  refine aw_go 2 10 [some (.ref 0), some (.int 5), some (.int (nI nth))] [.int 6, .int 5] (rdH (nI lv) hel res lf lp sta bas obj nx sa kn vu f wa len cap keys dp ln mk pt sl cnt mark) rfl ?_
  refine aw_cmp_eq rfl (fun h10 => absurd h10 (by decide)) (fun h10 => ?_)
  refine aw_go 2 16 [some (.ref 0), some (.int 5), some (.int (nI nth))] [.int 7, .int 5] (rdH (nI lv) hel res lf lp sta bas obj nx sa kn vu f wa len cap keys dp ln mk pt sl cnt mark) rfl ?_
  refine aw_cmp_ne rfl (fun h16 => ?_) (fun h16 => absurd h16 (by decide))
  refine aw_go 2 37 [some (.ref 0), some (.int 5), some (.int (nI nth))] [.int 5, .ref 0] (rdH (nI lv) hel res lf lp sta bas obj nx sa kn vu f wa len cap keys dp ln mk pt sl cnt mark) rfl ?_
  refine aw_cV [0, 1, 2, 3, 4, 5, 6, 7, 8, 9, 10, 11, 12, 13, 14] (c_Rd_canStand l hel res lf lp nx sa kn len cnt mark vu cap keys sta bas obj f wa dp ln mk pt sl lv hlv 5 sg (by omega) hs hsg) rfl cw_Rd_92 rfl rfl rfl rfl rfl rfl (Nat.le_refl _) (Nat.le_refl _) (fun r h' hp => ?_)
  obtain ⟨rfl, rfl⟩ := hp
  refine aw_go 0 40 [some (.ref 0), some (.int 5), some (.int (nI nth))] [.int (rb (rd_cs 5 sg))] (rdH (nI lv) hel res lf lp sta bas obj nx sa kn vu f wa len cap keys dp ln mk pt sl cnt mark) rfl ?_
  refine aw_if_ne rfl (fun h40 => ?_) (fun h40 => ?_)
  · refine aw_go 2 47 [some (.ref 0), some (.int 5), some (.int (nI nth))] [.int 2, .int 5] (rdH (nI lv) hel res lf lp sta bas obj nx sa kn vu f wa len cap keys dp ln mk pt sl cnt mark) rfl ?_
    refine aw_cmp_eq rfl (fun h47 => absurd h47 (by decide)) (fun h47 => ?_)
    refine aw_go 2 52 [some (.ref 0), some (.int 5), some (.int (nI nth))] [.int 4, .int 5] (rdH (nI lv) hel res lf lp sta bas obj nx sa kn vu f wa len cap keys dp ln mk pt sl cnt mark) rfl ?_
    refine aw_cmp_ne rfl (fun h52 => ?_) (fun h52 => absurd h52 (by decide))
    refine aw_go 1 67 [some (.ref 0), some (.int 5), some (.int (nI nth))] [.int 5] (rdH (nI lv) hel res lf lp sta bas obj nx sa kn vu f wa len cap keys dp ln mk pt sl cnt mark) rfl ?_
    refine aw_if_eq rfl (fun h67 => absurd h67 (by decide)) (fun h67 => ?_)
    refine aw_go 2 74 [some (.ref 0), some (.int 5), some (.int (nI nth))] [.int 1000, .int (nI nth)] (rdH (nI lv) hel res lf lp sta bas obj nx sa kn vu f wa len cap keys dp ln mk pt sl cnt mark) rfl ?_
    refine aw_cmp_le rfl (fun h74 => ?_) (fun h74 => ?_)
    · refine aw_go 1 82 [some (.ref 0), some (.int 5), some (.int (nI nth))] [.int 0] (rdH (nI lv) hel res lf lp sta bas obj nx sa kn vu f wa len cap keys dp ln mk pt sl cnt mark) rfl ?_
      exact aw_iret rfl rfl rfl ⟨by rw [show rd_fl 5 vu lv sg nth = 0 from (by have f2 : rd_cs 5 sg = true := rb_t h40; have f5 : ¬ 1000 < nth := (by have h9 := (nI_leI (b := 1000) (by omega) (by omega)).mp h74; omega); unfold rd_fl; simp [*])]; rfl, rfl⟩ rfl (Nat.le_refl _) (Nat.le_refl _) -- [.int 0] (rdH (nI lv) hel res lf lp sta bas obj nx sa kn vu f wa len cap keys dp ln mk pt sl cnt mark)
    · refine aw_go 2 82 [some (.ref 0), some (.int 5), some (.int (nI nth))] [.int 5] (rdH (nI lv) hel res lf lp sta bas obj nx sa kn vu f wa len cap keys dp ln mk pt sl cnt mark) rfl ?_
      exact aw_iret rfl rfl rfl ⟨by rw [show rd_fl 5 vu lv sg nth = 5 from (by have f2 : rd_cs 5 sg = true := rb_t h40; have f5 : 1000 < nth := (by have h9 : ¬ nth ≤ 1000 := (fun z => h74 (nI_le (b := 1000) z (by omega))); omega); unfold rd_fl; simp [*])]; rfl, rfl⟩ rfl (Nat.le_refl _) (Nat.le_refl _) -- [.int 5] (rdH (nI lv) hel res lf lp sta bas obj nx sa kn vu f wa len cap keys dp ln mk pt sl cnt mark)
  · refine aw_go 1 44 [some (.ref 0), some (.int 5), some (.int (nI nth))] [.int 3] (rdH (nI lv) hel res lf lp sta bas obj nx sa kn vu f wa len cap keys dp ln mk pt sl cnt mark) rfl ?_
    exact aw_iret rfl rfl rfl ⟨by rw [show rd_fl 5 vu lv sg nth = 3 from (by have f2 : rd_cs 5 sg = false := rb_f h40; unfold rd_fl; simp [*])]; rfl, rfl⟩ rfl (Nat.le_refl _) (Nat.le_refl _) -- [.int 3] (rdH (nI lv) hel res lf lp sta bas obj nx sa kn vu f wa len cap keys dp ln mk pt sl cnt mark)
set_option maxHeartbeats 2000000 in
set_option maxRecDepth 100000 in
theorem c_Rd_faultOf_6 (l : Launch) (hel res lf lp nx sa kn len cnt mark : Int32) (vu : Int64) (cap : Nat) (keys : Nat → Int64) (sta bas obj f wa dp ln mk pt sl : Nat → Int32) (lv : Nat) (hlv : lv ≤ 40) (sg nth : Nat) (hs : sg < 7) (hsg : sta lv = nI sg) (hnth : nth ≤ 1001) : Con l y_Rd_faultOf M_Rd_faultOf 3 62 [.ref 0, .int 6, .int (nI nth)] (rdH (nI lv) hel res lf lp sta bas obj nx sa kn vu f wa len cap keys dp ln mk pt sl cnt mark) 15 0 0 0 (fun r h' => r = some (.int (nI (rd_fl 6 vu lv sg nth))) ∧ h' = rdH (nI lv) hel res lf lp sta bas obj nx sa kn vu f wa len cap keys dp ln mk pt sl cnt mark) := by
  refine Con.ent ok_Rd_faultOf (by decide +kernel) rfl ?_
  intro pA eA sA mA argsA belowA methA cA GA μA
  refine aw_go 2 2 [some (.ref 0), some (.int 6), some (.int (nI nth))] [.int 1, .int 6] (rdH (nI lv) hel res lf lp sta bas obj nx sa kn vu f wa len cap keys dp ln mk pt sl cnt mark) rfl ?_
  refine aw_cmp_ne rfl (fun h2 => ?_) (fun h2 => absurd h2 (by decide))
  refine aw_go 2 10 [some (.ref 0), some (.int 6), some (.int (nI nth))] [.int 6, .int 6] (rdH (nI lv) hel res lf lp sta bas obj nx sa kn vu f wa len cap keys dp ln mk pt sl cnt mark) rfl ?_
  refine aw_cmp_eq rfl (fun h10 => ?_) (fun h10 => absurd h10 (by decide))
  refine aw_go 2 23 [some (.ref 0), some (.int 6), some (.int (nI nth))] [.ref 1] (rdH (nI lv) hel res lf lp sta bas obj nx sa kn vu f wa len cap keys dp ln mk pt sl cnt mark) rfl ?_
  refine aw_cV [1, 2, 3, 4] (c_Wd_value l f wa len nx sa kn vu) rfl cw_Rd_86 rfl rfl rfl rfl rfl rfl (Nat.le_refl _) (Nat.le_refl _) (fun r h' hp => ?_)
  obtain ⟨rfl, rfl⟩ := hp
  refine aw_go 2 30 [some (.ref 0), some (.int 6), some (.int (nI nth))] [.int (lg_cmp vu (-1))] (rdH (nI lv) hel res lf lp sta bas obj nx sa kn vu f wa len cap keys dp ln mk pt sl cnt mark) rfl ?_
  refine aw_if_ne rfl (fun h30 => ?_) (fun h30 => ?_)
  · refine aw_go 2 37 [some (.ref 0), some (.int 6), some (.int (nI nth))] [.int 6, .ref 0] (rdH (nI lv) hel res lf lp sta bas obj nx sa kn vu f wa len cap keys dp ln mk pt sl cnt mark) rfl ?_
    refine aw_cV [0, 1, 2, 3, 4, 5, 6, 7, 8, 9, 10, 11, 12, 13, 14] (c_Rd_canStand l hel res lf lp nx sa kn len cnt mark vu cap keys sta bas obj f wa dp ln mk pt sl lv hlv 6 sg (by omega) hs hsg) rfl cw_Rd_92 rfl rfl rfl rfl rfl rfl (Nat.le_refl _) (Nat.le_refl _) (fun r h' hp => ?_)
    obtain ⟨rfl, rfl⟩ := hp
    refine aw_go 0 40 [some (.ref 0), some (.int 6), some (.int (nI nth))] [.int (rb (rd_cs 6 sg))] (rdH (nI lv) hel res lf lp sta bas obj nx sa kn vu f wa len cap keys dp ln mk pt sl cnt mark) rfl ?_
    refine aw_if_ne rfl (fun h40 => ?_) (fun h40 => ?_)
    · refine aw_go 2 47 [some (.ref 0), some (.int 6), some (.int (nI nth))] [.int 2, .int 6] (rdH (nI lv) hel res lf lp sta bas obj nx sa kn vu f wa len cap keys dp ln mk pt sl cnt mark) rfl ?_
      refine aw_cmp_eq rfl (fun h47 => absurd h47 (by decide)) (fun h47 => ?_)
      refine aw_go 2 52 [some (.ref 0), some (.int 6), some (.int (nI nth))] [.int 4, .int 6] (rdH (nI lv) hel res lf lp sta bas obj nx sa kn vu f wa len cap keys dp ln mk pt sl cnt mark) rfl ?_
      refine aw_cmp_ne rfl (fun h52 => ?_) (fun h52 => absurd h52 (by decide))
      refine aw_go 1 67 [some (.ref 0), some (.int 6), some (.int (nI nth))] [.int 6] (rdH (nI lv) hel res lf lp sta bas obj nx sa kn vu f wa len cap keys dp ln mk pt sl cnt mark) rfl ?_
      refine aw_if_eq rfl (fun h67 => absurd h67 (by decide)) (fun h67 => ?_)
      refine aw_go 2 74 [some (.ref 0), some (.int 6), some (.int (nI nth))] [.int 1000, .int (nI nth)] (rdH (nI lv) hel res lf lp sta bas obj nx sa kn vu f wa len cap keys dp ln mk pt sl cnt mark) rfl ?_
      refine aw_cmp_le rfl (fun h74 => ?_) (fun h74 => ?_)
      · refine aw_go 1 82 [some (.ref 0), some (.int 6), some (.int (nI nth))] [.int 0] (rdH (nI lv) hel res lf lp sta bas obj nx sa kn vu f wa len cap keys dp ln mk pt sl cnt mark) rfl ?_
        exact aw_iret rfl rfl rfl ⟨by rw [show rd_fl 6 vu lv sg nth = 0 from (by have f1 : ¬ vu = -1 := (fun z => h30 (lg_c0.mpr z)); have f2 : rd_cs 6 sg = true := rb_t h40; have f5 : ¬ 1000 < nth := (by have h9 := (nI_leI (b := 1000) (by omega) (by omega)).mp h74; omega); unfold rd_fl; simp [*])]; rfl, rfl⟩ rfl (Nat.le_refl _) (Nat.le_refl _) -- [.int 0] (rdH (nI lv) hel res lf lp sta bas obj nx sa kn vu f wa len cap keys dp ln mk pt sl cnt mark)
      · refine aw_go 2 82 [some (.ref 0), some (.int 6), some (.int (nI nth))] [.int 5] (rdH (nI lv) hel res lf lp sta bas obj nx sa kn vu f wa len cap keys dp ln mk pt sl cnt mark) rfl ?_
        exact aw_iret rfl rfl rfl ⟨by rw [show rd_fl 6 vu lv sg nth = 5 from (by have f1 : ¬ vu = -1 := (fun z => h30 (lg_c0.mpr z)); have f2 : rd_cs 6 sg = true := rb_t h40; have f5 : 1000 < nth := (by have h9 : ¬ nth ≤ 1000 := (fun z => h74 (nI_le (b := 1000) z (by omega))); omega); unfold rd_fl; simp [*])]; rfl, rfl⟩ rfl (Nat.le_refl _) (Nat.le_refl _) -- [.int 5] (rdH (nI lv) hel res lf lp sta bas obj nx sa kn vu f wa len cap keys dp ln mk pt sl cnt mark)
    · refine aw_go 1 44 [some (.ref 0), some (.int 6), some (.int (nI nth))] [.int 3] (rdH (nI lv) hel res lf lp sta bas obj nx sa kn vu f wa len cap keys dp ln mk pt sl cnt mark) rfl ?_
      exact aw_iret rfl rfl rfl ⟨by rw [show rd_fl 6 vu lv sg nth = 3 from (by have f1 : ¬ vu = -1 := (fun z => h30 (lg_c0.mpr z)); have f2 : rd_cs 6 sg = false := rb_f h40; unfold rd_fl; simp [*])]; rfl, rfl⟩ rfl (Nat.le_refl _) (Nat.le_refl _) -- [.int 3] (rdH (nI lv) hel res lf lp sta bas obj nx sa kn vu f wa len cap keys dp ln mk pt sl cnt mark)
  · refine aw_go 1 34 [some (.ref 0), some (.int 6), some (.int (nI nth))] [.int 2] (rdH (nI lv) hel res lf lp sta bas obj nx sa kn vu f wa len cap keys dp ln mk pt sl cnt mark) rfl ?_
    exact aw_iret rfl rfl rfl ⟨by rw [show rd_fl 6 vu lv sg nth = 2 from (by have f1 : vu = -1 := lg_c0.mp h30; unfold rd_fl; simp [*])]; rfl, rfl⟩ rfl (Nat.le_refl _) (Nat.le_refl _) -- [.int 2] (rdH (nI lv) hel res lf lp sta bas obj nx sa kn vu f wa len cap keys dp ln mk pt sl cnt mark)
set_option maxHeartbeats 2000000 in
set_option maxRecDepth 100000 in
theorem c_Rd_faultOf_7 (l : Launch) (hel res lf lp nx sa kn len cnt mark : Int32) (vu : Int64) (cap : Nat) (keys : Nat → Int64) (sta bas obj f wa dp ln mk pt sl : Nat → Int32) (lv : Nat) (hlv : lv ≤ 40) (sg nth : Nat) (hs : sg < 7) (hsg : sta lv = nI sg) (hnth : nth ≤ 1001) : Con l y_Rd_faultOf M_Rd_faultOf 3 62 [.ref 0, .int 7, .int (nI nth)] (rdH (nI lv) hel res lf lp sta bas obj nx sa kn vu f wa len cap keys dp ln mk pt sl cnt mark) 15 0 0 0 (fun r h' => r = some (.int (nI (rd_fl 7 vu lv sg nth))) ∧ h' = rdH (nI lv) hel res lf lp sta bas obj nx sa kn vu f wa len cap keys dp ln mk pt sl cnt mark) := by
  refine Con.ent ok_Rd_faultOf (by decide +kernel) rfl ?_
  intro pA eA sA mA argsA belowA methA cA GA μA
  refine aw_go 2 2 [some (.ref 0), some (.int 7), some (.int (nI nth))] [.int 1, .int 7] (rdH (nI lv) hel res lf lp sta bas obj nx sa kn vu f wa len cap keys dp ln mk pt sl cnt mark) rfl ?_
  refine aw_cmp_ne rfl (fun h2 => ?_) (fun h2 => absurd h2 (by decide))
  refine aw_go 2 10 [some (.ref 0), some (.int 7), some (.int (nI nth))] [.int 6, .int 7] (rdH (nI lv) hel res lf lp sta bas obj nx sa kn vu f wa len cap keys dp ln mk pt sl cnt mark) rfl ?_
  refine aw_cmp_eq rfl (fun h10 => absurd h10 (by decide)) (fun h10 => ?_)
  refine aw_go 2 16 [some (.ref 0), some (.int 7), some (.int (nI nth))] [.int 7, .int 7] (rdH (nI lv) hel res lf lp sta bas obj nx sa kn vu f wa len cap keys dp ln mk pt sl cnt mark) rfl ?_
  refine aw_cmp_ne rfl (fun h16 => absurd h16 (by decide)) (fun h16 => ?_)
  refine aw_go 2 23 [some (.ref 0), some (.int 7), some (.int (nI nth))] [.ref 1] (rdH (nI lv) hel res lf lp sta bas obj nx sa kn vu f wa len cap keys dp ln mk pt sl cnt mark) rfl ?_
  refine aw_cV [1, 2, 3, 4] (c_Wd_value l f wa len nx sa kn vu) rfl cw_Rd_86 rfl rfl rfl rfl rfl rfl (Nat.le_refl _) (Nat.le_refl _) (fun r h' hp => ?_)
  obtain ⟨rfl, rfl⟩ := hp
  refine aw_go 2 30 [some (.ref 0), some (.int 7), some (.int (nI nth))] [.int (lg_cmp vu (-1))] (rdH (nI lv) hel res lf lp sta bas obj nx sa kn vu f wa len cap keys dp ln mk pt sl cnt mark) rfl ?_
  refine aw_if_ne rfl (fun h30 => ?_) (fun h30 => ?_)
  · refine aw_go 2 37 [some (.ref 0), some (.int 7), some (.int (nI nth))] [.int 7, .ref 0] (rdH (nI lv) hel res lf lp sta bas obj nx sa kn vu f wa len cap keys dp ln mk pt sl cnt mark) rfl ?_
    refine aw_cV [0, 1, 2, 3, 4, 5, 6, 7, 8, 9, 10, 11, 12, 13, 14] (c_Rd_canStand l hel res lf lp nx sa kn len cnt mark vu cap keys sta bas obj f wa dp ln mk pt sl lv hlv 7 sg (by omega) hs hsg) rfl cw_Rd_92 rfl rfl rfl rfl rfl rfl (Nat.le_refl _) (Nat.le_refl _) (fun r h' hp => ?_)
    obtain ⟨rfl, rfl⟩ := hp
    refine aw_go 0 40 [some (.ref 0), some (.int 7), some (.int (nI nth))] [.int (rb (rd_cs 7 sg))] (rdH (nI lv) hel res lf lp sta bas obj nx sa kn vu f wa len cap keys dp ln mk pt sl cnt mark) rfl ?_
    refine aw_if_ne rfl (fun h40 => ?_) (fun h40 => ?_)
    · refine aw_go 2 47 [some (.ref 0), some (.int 7), some (.int (nI nth))] [.int 2, .int 7] (rdH (nI lv) hel res lf lp sta bas obj nx sa kn vu f wa len cap keys dp ln mk pt sl cnt mark) rfl ?_
      refine aw_cmp_eq rfl (fun h47 => absurd h47 (by decide)) (fun h47 => ?_)
      refine aw_go 2 52 [some (.ref 0), some (.int 7), some (.int (nI nth))] [.int 4, .int 7] (rdH (nI lv) hel res lf lp sta bas obj nx sa kn vu f wa len cap keys dp ln mk pt sl cnt mark) rfl ?_
      refine aw_cmp_ne rfl (fun h52 => ?_) (fun h52 => absurd h52 (by decide))
      refine aw_go 1 67 [some (.ref 0), some (.int 7), some (.int (nI nth))] [.int 7] (rdH (nI lv) hel res lf lp sta bas obj nx sa kn vu f wa len cap keys dp ln mk pt sl cnt mark) rfl ?_
      refine aw_if_eq rfl (fun h67 => absurd h67 (by decide)) (fun h67 => ?_)
      refine aw_go 2 74 [some (.ref 0), some (.int 7), some (.int (nI nth))] [.int 1000, .int (nI nth)] (rdH (nI lv) hel res lf lp sta bas obj nx sa kn vu f wa len cap keys dp ln mk pt sl cnt mark) rfl ?_
      refine aw_cmp_le rfl (fun h74 => ?_) (fun h74 => ?_)
      · refine aw_go 1 82 [some (.ref 0), some (.int 7), some (.int (nI nth))] [.int 0] (rdH (nI lv) hel res lf lp sta bas obj nx sa kn vu f wa len cap keys dp ln mk pt sl cnt mark) rfl ?_
        exact aw_iret rfl rfl rfl ⟨by rw [show rd_fl 7 vu lv sg nth = 0 from (by have f1 : ¬ vu = -1 := (fun z => h30 (lg_c0.mpr z)); have f2 : rd_cs 7 sg = true := rb_t h40; have f5 : ¬ 1000 < nth := (by have h9 := (nI_leI (b := 1000) (by omega) (by omega)).mp h74; omega); unfold rd_fl; simp [*])]; rfl, rfl⟩ rfl (Nat.le_refl _) (Nat.le_refl _) -- [.int 0] (rdH (nI lv) hel res lf lp sta bas obj nx sa kn vu f wa len cap keys dp ln mk pt sl cnt mark)
      · refine aw_go 2 82 [some (.ref 0), some (.int 7), some (.int (nI nth))] [.int 5] (rdH (nI lv) hel res lf lp sta bas obj nx sa kn vu f wa len cap keys dp ln mk pt sl cnt mark) rfl ?_
        exact aw_iret rfl rfl rfl ⟨by rw [show rd_fl 7 vu lv sg nth = 5 from (by have f1 : ¬ vu = -1 := (fun z => h30 (lg_c0.mpr z)); have f2 : rd_cs 7 sg = true := rb_t h40; have f5 : 1000 < nth := (by have h9 : ¬ nth ≤ 1000 := (fun z => h74 (nI_le (b := 1000) z (by omega))); omega); unfold rd_fl; simp [*])]; rfl, rfl⟩ rfl (Nat.le_refl _) (Nat.le_refl _) -- [.int 5] (rdH (nI lv) hel res lf lp sta bas obj nx sa kn vu f wa len cap keys dp ln mk pt sl cnt mark)
    · refine aw_go 1 44 [some (.ref 0), some (.int 7), some (.int (nI nth))] [.int 3] (rdH (nI lv) hel res lf lp sta bas obj nx sa kn vu f wa len cap keys dp ln mk pt sl cnt mark) rfl ?_
      exact aw_iret rfl rfl rfl ⟨by rw [show rd_fl 7 vu lv sg nth = 3 from (by have f1 : ¬ vu = -1 := (fun z => h30 (lg_c0.mpr z)); have f2 : rd_cs 7 sg = false := rb_f h40; unfold rd_fl; simp [*])]; rfl, rfl⟩ rfl (Nat.le_refl _) (Nat.le_refl _) -- [.int 3] (rdH (nI lv) hel res lf lp sta bas obj nx sa kn vu f wa len cap keys dp ln mk pt sl cnt mark)
  · refine aw_go 1 34 [some (.ref 0), some (.int 7), some (.int (nI nth))] [.int 2] (rdH (nI lv) hel res lf lp sta bas obj nx sa kn vu f wa len cap keys dp ln mk pt sl cnt mark) rfl ?_
    exact aw_iret rfl rfl rfl ⟨by rw [show rd_fl 7 vu lv sg nth = 2 from (by have f1 : vu = -1 := lg_c0.mp h30; unfold rd_fl; simp [*])]; rfl, rfl⟩ rfl (Nat.le_refl _) (Nat.le_refl _) -- [.int 2] (rdH (nI lv) hel res lf lp sta bas obj nx sa kn vu f wa len cap keys dp ln mk pt sl cnt mark)
theorem c_Rd_faultOf (l : Launch) (hel res lf lp nx sa kn len cnt mark : Int32) (vu : Int64) (cap : Nat) (keys : Nat → Int64) (sta bas obj f wa dp ln mk pt sl : Nat → Int32) (lv : Nat) (hlv : lv ≤ 40) (sg nth : Nat) (hs : sg < 7) (hsg : sta lv = nI sg) (hnth : nth ≤ 1001) (k : Nat) (hk : k < 8) : Con l y_Rd_faultOf M_Rd_faultOf 3 62 [.ref 0, .int (nI k), .int (nI nth)] (rdH (nI lv) hel res lf lp sta bas obj nx sa kn vu f wa len cap keys dp ln mk pt sl cnt mark) 15 0 0 0 (fun r h' => r = some (.int (nI (rd_fl k vu lv sg nth))) ∧ h' = rdH (nI lv) hel res lf lp sta bas obj nx sa kn vu f wa len cap keys dp ln mk pt sl cnt mark) := by
  rcases (show k = 0 ∨ k = 1 ∨ k = 2 ∨ k = 3 ∨ k = 4 ∨ k = 5 ∨ k = 6 ∨ k = 7 by omega) with rfl | rfl | rfl | rfl | rfl | rfl | rfl | rfl
  · exact c_Rd_faultOf_0 l hel res lf lp nx sa kn len cnt mark vu cap keys sta bas obj f wa dp ln mk pt sl lv hlv sg nth hs hsg hnth
  · exact c_Rd_faultOf_1 l hel res lf lp nx sa kn len cnt mark vu cap keys sta bas obj f wa dp ln mk pt sl lv hlv sg nth hs hsg hnth
  · exact c_Rd_faultOf_2 l hel res lf lp nx sa kn len cnt mark vu cap keys sta bas obj f wa dp ln mk pt sl lv hlv sg nth hs hsg hnth
  · exact c_Rd_faultOf_3 l hel res lf lp nx sa kn len cnt mark vu cap keys sta bas obj f wa dp ln mk pt sl lv hlv sg nth hs hsg hnth
  · exact c_Rd_faultOf_4 l hel res lf lp nx sa kn len cnt mark vu cap keys sta bas obj f wa dp ln mk pt sl lv hlv sg nth hs hsg hnth
  · exact c_Rd_faultOf_5 l hel res lf lp nx sa kn len cnt mark vu cap keys sta bas obj f wa dp ln mk pt sl lv hlv sg nth hs hsg hnth
  · exact c_Rd_faultOf_6 l hel res lf lp nx sa kn len cnt mark vu cap keys sta bas obj f wa dp ln mk pt sl lv hlv sg nth hs hsg hnth
  · exact c_Rd_faultOf_7 l hel res lf lp nx sa kn len cnt mark vu cap keys sta bas obj f wa dp ln mk pt sl lv hlv sg nth hs hsg hnth
