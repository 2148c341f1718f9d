/-! Reader: levels and stages -/
def rdH (lev hel res lf lp : Int32) (sta bas obj : Nat → Int32) (nx sa kn : Int32) (vu : Int64) (f wa : Nat → Int32) (len : Int32) (cap : Nat) (keys : Nat → Int64) (dp ln mk pt sl : Nat → Int32) (cnt mark : Int32) : am_H := [.inr (1, [.ref 2, .ref 8, .ref 1, .ref 5, .ref 6, .ref 7, .int lev, .int hel, .int res, .int lf, .int lp]), .inr (6, [.ref 2, .int nx, .int sa, .int kn, .long vu]), .inr (5, [.ref 3, .ref 4, .int len]), .inl (2, 3000, .inl f), .inl (0, 5, .inl wa), .inl (0, 41, .inl sta), .inl (0, 41, .inl bas), .inl (0, 1000, .inl obj), .inr (3, [.ref 9, .ref 10, .ref 11, .ref 12, .ref 13, .ref 14, .int cnt, .int mark]), .inl (1, cap, .inr (.inl keys)), .inl (0, cap, .inl dp), .inl (0, cap, .inl ln), .inl (0, cap, .inl mk), .inl (0, cap, .inl pt), .inl (0, 2 * cap, .inl sl)]
/-- which kind of word can stand at a stage -/
def rd_cs (k sg : Nat) : Bool := if k = 0 then decide (sg = 1) else if k = 5 then decide (sg = 4) else if k = 3 then decide (sg = 3 ∨ sg = 4 ∨ sg = 6) else decide (sg ≠ 1 ∧ sg ≠ 6)
set_option maxHeartbeats 2000000 in
set_option maxRecDepth 100000 in
theorem c_Rd_isLevel (l : Launch) (hel res lf lp nx sa kn len cnt mark : Int32) (vu : Int64) (cap : Nat) (keys : Nat → Int64) (sta bas obj f wa dp ln mk pt sl : Nat → Int32) (lv : Nat) (hlv : lv ≤ 40) : Con l y_Rd_isLevel M_Rd_isLevel 0 0 [.ref 0] (rdH (nI lv) hel res lf lp sta bas obj nx sa kn vu f wa len cap keys dp ln mk pt sl cnt mark) 15 0 0 0 (fun r h' => r = some (.int 1) ∧ h' = rdH (nI lv) hel res lf lp sta bas obj nx sa kn vu f wa len cap keys dp ln mk pt sl cnt mark) := by
  refine Con.ent ok_Rd_isLevel (by decide +kernel) rfl ?_
  intro pA eA sA mA argsA belowA methA cA GA μA
  refine aw_go 2 4 [some (.ref 0)] [.int (nI lv)] (rdH (nI lv) hel res lf lp sta bas obj nx sa kn vu f wa len cap keys dp ln mk pt sl cnt mark) rfl ?_
  refine aw_if_lt rfl (fun h4 => absurd h4 (nI_pos (by omega))) (fun h4 => ?_)
  refine aw_go 3 13 [some (.ref 0)] [.int 40, .int (nI lv)] (rdH (nI lv) hel res lf lp sta bas obj nx sa kn vu f wa len cap keys dp ln mk pt sl cnt mark) rfl ?_
  refine aw_cmp_gt rfl (fun h13 => absurd h13 (nI_nlt (b := lv) (a := 40) hlv (by omega))) (fun h13 => ?_)
  refine aw_go 2 21 [some (.ref 0)] [.int 1] (rdH (nI lv) hel res lf lp sta bas obj nx sa kn vu f wa len cap keys dp ln mk pt sl cnt mark) rfl ?_
  exact aw_iret rfl (by decide) rfl ⟨rfl, rfl⟩ rfl (Nat.le_refl _) (Nat.le_refl _) -- [.int 1] (rdH (nI lv) hel res lf lp sta bas obj nx sa kn vu f wa len cap keys dp ln mk pt sl cnt mark)
set_option maxHeartbeats 2000000 in
set_option maxRecDepth 100000 in
theorem c_Rd_stage (l : Launch) (hel res lf lp nx sa kn len cnt mark : Int32) (vu : Int64) (cap : Nat) (keys : Nat → Int64) (sta bas obj f wa dp ln mk pt sl : Nat → Int32) (lv : Nat) (hlv : lv ≤ 40) : Con l y_Rd_stage M_Rd_stage 1 20 [.ref 0] (rdH (nI lv) hel res lf lp sta bas obj nx sa kn vu f wa len cap keys dp ln mk pt sl cnt mark) 15 0 0 0 (fun r h' => r = some (.int (sta lv)) ∧ h' = rdH (nI lv) hel res lf lp sta bas obj nx sa kn vu f wa len cap keys dp ln mk pt sl cnt mark) := by
  refine Con.ent ok_Rd_stage (by decide +kernel) rfl ?_
  intro pA eA sA mA argsA belowA methA cA GA μA
  refine aw_go 1 1 [some (.ref 0)] [.ref 0] (rdH (nI lv) hel res lf lp sta bas obj nx sa kn vu f wa len cap keys dp ln mk pt sl cnt mark) rfl ?_
  refine aw_cV [0, 1, 2, 3, 4, 5, 6, 7, 8, 9, 10, 11, 12, 13, 14] (c_Rd_isLevel l hel res lf lp nx sa kn len cnt mark vu cap keys sta bas obj f wa dp ln mk pt sl lv hlv) rfl cw_Rd_128 rfl rfl rfl rfl rfl rfl (Nat.le_refl _) (Nat.le_refl _) (fun r h' hp => ?_)
  obtain ⟨rfl, rfl⟩ := hp
  refine aw_go 0 4 [some (.ref 0)] [.int 1] (rdH (nI lv) hel res lf lp sta bas obj nx sa kn vu f wa len cap keys dp ln mk pt sl cnt mark) rfl ?_
  refine aw_if_eq rfl (fun h4 => absurd h4 (by decide)) (fun h4 => ?_)
  refine aw_go 4 15 [some (.ref 0)] [.int (nI lv), .ref 5] (rdH (nI lv) hel res lf lp sta bas obj nx sa kn vu f wa len cap keys dp ln mk pt sl cnt mark) rfl ?_
  refine aw_ialdN rfl rfl ⟨by omega, by omega⟩ ?_
  refine aw_go 1 20 [some (.ref 0)] [.int (sta lv)] (rdH (nI lv) hel res lf lp sta bas obj nx sa kn vu f wa len cap keys dp ln mk pt sl cnt mark) rfl ?_
  exact aw_iret rfl rfl rfl ⟨rfl, rfl⟩ rfl (Nat.le_refl _) (Nat.le_refl _) -- [.int (sta lv)] (rdH (nI lv) hel res lf lp sta bas obj nx sa kn vu f wa len cap keys dp ln mk pt sl cnt mark)
set_option maxHeartbeats 2000000 in
set_option maxRecDepth 100000 in
theorem c_Rd_base (l : Launch) (hel res lf lp nx sa kn len cnt mark : Int32) (vu : Int64) (cap : Nat) (keys : Nat → Int64) (sta bas obj f wa dp ln mk pt sl : Nat → Int32) (lv : Nat) (hlv : lv ≤ 40) : Con l y_Rd_base M_Rd_base 1 20 [.ref 0] (rdH (nI lv) hel res lf lp sta bas obj nx sa kn vu f wa len cap keys dp ln mk pt sl cnt mark) 15 0 0 0 (fun r h' => r = some (.int (bas lv)) ∧ h' = rdH (nI lv) hel res lf lp sta bas obj nx sa kn vu f wa len cap keys dp ln mk pt sl cnt mark) := by
  refine Con.ent ok_Rd_base (by decide +kernel) rfl ?_
  intro pA eA sA mA argsA belowA methA cA GA μA
  refine aw_go 1 1 [some (.ref 0)] [.ref 0] (rdH (nI lv) hel res lf lp sta bas obj nx sa kn vu f wa len cap keys dp ln mk pt sl cnt mark) rfl ?_
  refine aw_cV [0, 1, 2, 3, 4, 5, 6, 7, 8, 9, 10, 11, 12, 13, 14] (c_Rd_isLevel l hel res lf lp nx sa kn len cnt mark vu cap keys sta bas obj f wa dp ln mk pt sl lv hlv) rfl cw_Rd_128 rfl rfl rfl rfl rfl rfl (Nat.le_refl _) (Nat.le_refl _) (fun r h' hp => ?_)
  obtain ⟨rfl, rfl⟩ := hp
  refine aw_go 0 4 [some (.ref 0)] [.int 1] (rdH (nI lv) hel res lf lp sta bas obj nx sa kn vu f wa len cap keys dp ln mk pt sl cnt mark) rfl ?_
  refine aw_if_eq rfl (fun h4 => absurd h4 (by decide)) (fun h4 => ?_)
  refine aw_go 4 15 [some (.ref 0)] [.int (nI lv), .ref 6] (rdH (nI lv) hel res lf lp sta bas obj nx sa kn vu f wa len cap keys dp ln mk pt sl cnt mark) rfl ?_
  refine aw_ialdN rfl rfl ⟨by omega, by omega⟩ ?_
  refine aw_go 1 20 [some (.ref 0)] [.int (bas lv)] (rdH (nI lv) hel res lf lp sta bas obj nx sa kn vu f wa len cap keys dp ln mk pt sl cnt mark) rfl ?_
  exact aw_iret rfl rfl rfl ⟨rfl, rfl⟩ rfl (Nat.le_refl _) (Nat.le_refl _) -- [.int (bas lv)] (rdH (nI lv) hel res lf lp sta bas obj nx sa kn vu f wa len cap keys dp ln mk pt sl cnt mark)
set_option maxHeartbeats 2000000 in
set_option maxRecDepth 100000 in
theorem c_Rd_setStage (l : Launch) (hel res lf lp nx sa kn len cnt mark : Int32) (vu : Int64) (cap : Nat) (keys : Nat → Int64) (sta bas obj f wa dp ln mk pt sl : Nat → Int32) (lv : Nat) (hlv : lv ≤ 40) (x : Int32) : Con l y_Rd_setStage M_Rd_setStage 1 20 [.ref 0, .int x] (rdH (nI lv) hel res lf lp sta bas obj nx sa kn vu f wa len cap keys dp ln mk pt sl cnt mark) 15 0 0 0 (fun r h' => r = none ∧ h' = rdH (nI lv) hel res lf lp (upd sta lv x) bas obj nx sa kn vu f wa len cap keys dp ln mk pt sl cnt mark) := by
  refine Con.ent ok_Rd_setStage (by decide +kernel) rfl ?_
  intro pA eA sA mA argsA belowA methA cA GA μA
  refine aw_go 1 1 [some (.ref 0), some (.int x)] [.ref 0] (rdH (nI lv) hel res lf lp sta bas obj nx sa kn vu f wa len cap keys dp ln mk pt sl cnt mark) rfl ?_
  refine aw_cV [0, 1, 2, 3, 4, 5, 6, 7, 8, 9, 10, 11, 12, 13, 14] (c_Rd_isLevel l hel res lf lp nx sa kn len cnt mark vu cap keys sta bas obj f wa dp ln mk pt sl lv hlv) rfl cw_Rd_128 rfl rfl rfl rfl rfl rfl (Nat.le_refl _) (Nat.le_refl _) (fun r h' hp => ?_)
  obtain ⟨rfl, rfl⟩ := hp
  refine aw_go 0 4 [some (.ref 0), some (.int x)] [.int 1] (rdH (nI lv) hel res lf lp sta bas obj nx sa kn vu f wa len cap keys dp ln mk pt sl cnt mark) rfl ?_
  refine aw_if_eq rfl (fun h4 => absurd h4 (by decide)) (fun h4 => ?_)
  refine aw_go 5 16 [some (.ref 0), some (.int x)] [.int x, .int (nI lv), .ref 5] (rdH (nI lv) hel res lf lp sta bas obj nx sa kn vu f wa len cap keys dp ln mk pt sl cnt mark) rfl ?_
  refine aw_iastN rfl rfl ⟨by omega, by omega⟩ ?_
  refine aw_go 0 17 [some (.ref 0), some (.int x)] [] (rdH (nI lv) hel res lf lp (upd sta lv x) bas obj nx sa kn vu f wa len cap keys dp ln mk pt sl cnt mark) rfl ?_
  exact aw_vret rfl rfl ⟨rfl, rfl⟩ rfl (Nat.le_refl _) (Nat.le_refl _) -- [] (rdH (nI lv) hel res lf lp (upd sta lv x) bas obj nx sa kn vu f wa len cap keys dp ln mk pt sl cnt mark)
set_option maxHeartbeats 2000000 in
set_option maxRecDepth 100000 in
theorem c_Rd_open (l : Launch) (hel res lf lp nx sa kn len cnt mark : Int32) (vu : Int64) (cap : Nat) (keys : Nat → Int64) (sta bas obj f wa dp ln mk pt sl : Nat → Int32) (lv : Nat) (hlv : lv < 40) (x : Int32) : Con l y_Rd_open M_Rd_open 0 0 [.ref 0, .int x] (rdH (nI lv) hel res lf lp sta bas obj nx sa kn vu f wa len cap keys dp ln mk pt sl cnt mark) 15 0 0 0 (fun r h' => r = none ∧ h' = rdH (nI (lv + 1)) hel res lf lp (upd sta (lv + 1) x) (upd bas (lv + 1) hel) obj nx sa kn vu f wa len cap keys dp ln mk pt sl cnt mark) := by
  refine Con.ent ok_Rd_open (by decide +kernel) rfl ?_
  intro pA eA sA mA argsA belowA methA cA GA μA
  refine aw_go 3 6 [some (.ref 0), some (.int x)] [.int 40, .int (nI lv)] (rdH (nI lv) hel res lf lp sta bas obj nx sa kn vu f wa len cap keys dp ln mk pt sl cnt mark) rfl ?_
  refine aw_cmp_ge rfl (fun h6 => absurd h6 (nI_ge (b := 40) hlv (by omega))) (fun h6 => ?_)
  refine aw_go 6 19 [some (.ref 0), some (.int x)] [] (rdH ((nI lv) + 1) hel res lf lp sta bas obj nx sa kn vu f wa len cap keys dp ln mk pt sl cnt mark) rfl ?_
  rw [← nI_succ]
  refine aw_go 5 28 [some (.ref 0), some (.int x)] [.int x, .int (nI (lv + 1)), .ref 5] (rdH (nI (lv + 1)) hel res lf lp sta bas obj nx sa kn vu f wa len cap keys dp ln mk pt sl cnt mark) rfl ?_
  refine aw_iastN rfl rfl ⟨by omega, by omega⟩ ?_
  refine aw_go 6 41 [some (.ref 0), some (.int x)] [.int hel, .int (nI (lv + 1)), .ref 6] (rdH (nI (lv + 1)) hel res lf lp (upd sta (lv + 1) x) bas obj nx sa kn vu f wa len cap keys dp ln mk pt sl cnt mark) rfl ?_
  refine aw_iastN rfl rfl ⟨by omega, by omega⟩ ?_
  refine aw_go 0 42 [some (.ref 0), some (.int x)] [] (rdH (nI (lv + 1)) hel res lf lp (upd sta (lv + 1) x) (upd bas (lv + 1) hel) obj nx sa kn vu f wa len cap keys dp ln mk pt sl cnt mark) rfl ?_
  exact aw_vret rfl rfl ⟨rfl, rfl⟩ rfl (Nat.le_refl _) (Nat.le_refl _) -- [] (rdH (nI (lv + 1)) hel res lf lp (upd sta (lv + 1) x) (upd bas (lv + 1) hel) obj nx sa kn vu f wa len cap keys dp ln mk pt sl cnt mark)
set_option maxHeartbeats 2000000 in
set_option maxRecDepth 100000 in
theorem c_Rd_canStand (l : Launch) (hel res lf lp nx sa kn len cnt mark : Int32) (vu : Int64) (cap : Nat) (keys : Nat → Int64) (sta bas obj f wa dp ln mk pt sl : Nat → Int32) (lv : Nat) (hlv : lv ≤ 40) (k sg : Nat) (hk : k < 8) (hs : sg < 7) (hsg : sta lv = nI sg) : Con l y_Rd_canStand M_Rd_canStand 2 40 [.ref 0, .int (nI k)] (rdH (nI lv) hel res lf lp sta bas obj nx sa kn vu f wa len cap keys dp ln mk pt sl cnt mark) 15 0 0 0 (fun r h' => r = some (.int (rb (rd_cs k sg))) ∧ h' = rdH (nI lv) hel res lf lp sta bas obj nx sa kn vu f wa len cap keys dp ln mk pt sl cnt mark) := by
  refine Con.ent ok_Rd_canStand (by decide +kernel) rfl ?_
  intro pA eA sA mA argsA belowA methA cA GA μA
  refine aw_go 1 1 [some (.ref 0), some (.int (nI k)), none] [.ref 0] (rdH (nI lv) hel res lf lp sta bas obj nx sa kn vu f wa len cap keys dp ln mk pt sl cnt mark) rfl ?_
  refine aw_cV [0, 1, 2, 3, 4, 5, 6, 7, 8, 9, 10, 11, 12, 13, 14] (c_Rd_stage l hel res lf lp nx sa kn len cnt mark vu cap keys sta bas obj f wa dp ln mk pt sl lv hlv) rfl cw_Rd_96 rfl rfl rfl rfl rfl rfl (Nat.le_refl _) (Nat.le_refl _) (fun r h' hp => ?_)
  obtain ⟨rfl, rfl⟩ := hp
  rw [hsg]
  refine aw_go 2 6 [some (.ref 0), some (.int (nI k)), some (.int (nI sg))] [.int (nI k)] (rdH (nI lv) hel res lf lp sta bas obj nx sa kn vu f wa len cap keys dp ln mk pt sl cnt mark) rfl ?_
  by_cases hz6_0 : nI k = 0
  · refine aw_lookK 0 34 40 hz6_0 rfl (by decide) ?_
    refine aw_go 2 42 [some (.ref 0), some (.int (nI k)), some (.int (nI sg))] [.int 1, .int (nI sg)] (rdH (nI lv) hel res lf lp sta bas obj nx sa kn vu f wa len cap keys dp ln mk pt sl cnt mark) rfl ?_
    refine aw_cmp_ne rfl (fun h42 => ?_) (fun h42 => ?_)
    · refine aw_go 1 50 [some (.ref 0), some (.int (nI k)), some (.int (nI sg))] [.int 0] (rdH (nI lv) hel res lf lp sta bas obj nx sa kn vu f wa len cap keys dp ln mk pt sl cnt mark) rfl ?_
      exact aw_iret rfl (by decide) rfl ⟨by rw [show rd_cs k sg = false from (by rw [tk_c (k := 0) (by omega) (by omega) hz6_0]; have q42 := tk_n (k := 1) h42; simp [rd_cs, *])]; rfl, rfl⟩ rfl (Nat.le_refl _) (Nat.le_refl _) -- [.int 0] (rdH (nI lv) hel res lf lp sta bas obj nx sa kn vu f wa len cap keys dp ln mk pt sl cnt mark)
    · refine aw_go 2 50 [some (.ref 0), some (.int (nI k)), some (.int (nI sg))] [.int 1] (rdH (nI lv) hel res lf lp sta bas obj nx sa kn vu f wa len cap keys dp ln mk pt sl cnt mark) rfl ?_
      exact aw_iret rfl (by decide) rfl ⟨by rw [show rd_cs k sg = true from (by rw [tk_c (k := 0) (by omega) (by omega) hz6_0]; have q42 := tk_c (k := 1) (by omega) (by omega) h42; simp [rd_cs, *])]; rfl, rfl⟩ rfl (Nat.le_refl _) (Nat.le_refl _) -- [.int 1] (rdH (nI lv) hel res lf lp sta bas obj nx sa kn vu f wa len cap keys dp ln mk pt sl cnt mark)
  by_cases hz6_3 : nI k = 3
  · refine aw_lookK 3 56 62 hz6_3 rfl (by decide) ?_
    refine aw_go 2 64 [some (.ref 0), some (.int (nI k)), some (.int (nI sg))] [.int 3, .int (nI sg)] (rdH (nI lv) hel res lf lp sta bas obj nx sa kn vu f wa len cap keys dp ln mk pt sl cnt mark) rfl ?_
    refine aw_cmp_eq rfl (fun h64 => ?_) (fun h64 => ?_)
    · refine aw_go 2 83 [some (.ref 0), some (.int (nI k)), some (.int (nI sg))] [.int 1] (rdH (nI lv) hel res lf lp sta bas obj nx sa kn vu f wa len cap keys dp ln mk pt sl cnt mark) rfl ?_
      exact aw_iret rfl (by decide) rfl ⟨by rw [show rd_cs k sg = true from (by rw [tk_c (k := 3) (by omega) (by omega) hz6_3]; have q64 := tk_c (k := 3) (by omega) (by omega) h64; simp [rd_cs, *])]; rfl, rfl⟩ rfl (Nat.le_refl _) (Nat.le_refl _) -- [.int 1] (rdH (nI lv) hel res lf lp sta bas obj nx sa kn vu f wa len cap keys dp ln mk pt sl cnt mark)
    · refine aw_go 2 69 [some (.ref 0), some (.int (nI k)), some (.int (nI sg))] [.int 4, .int (nI sg)] (rdH (nI lv) hel res lf lp sta bas obj nx sa kn vu f wa len cap keys dp ln mk pt sl cnt mark) rfl ?_
      refine aw_cmp_eq rfl (fun h69 => ?_) (fun h69 => ?_)
      · refine aw_go 2 83 [some (.ref 0), some (.int (nI k)), some (.int (nI sg))] [.int 1] (rdH (nI lv) hel res lf lp sta bas obj nx sa kn vu f wa len cap keys dp ln mk pt sl cnt mark) rfl ?_
        exact aw_iret rfl (by decide) rfl ⟨by rw [show rd_cs k sg = true from (by rw [tk_c (k := 3) (by omega) (by omega) hz6_3]; have q69 := tk_c (k := 4) (by omega) (by omega) h69; simp [rd_cs, *])]; rfl, rfl⟩ rfl (Nat.le_refl _) (Nat.le_refl _) -- [.int 1] (rdH (nI lv) hel res lf lp sta bas obj nx sa kn vu f wa len cap keys dp ln mk pt sl cnt mark)
      · refine aw_go 2 75 [some (.ref 0), some (.int (nI k)), some (.int (nI sg))] [.int 6, .int (nI sg)] (rdH (nI lv) hel res lf lp sta bas obj nx sa kn vu f wa len cap keys dp ln mk pt sl cnt mark) rfl ?_
        refine aw_cmp_ne rfl (fun h75 => ?_) (fun h75 => ?_)
        · refine aw_go 1 83 [some (.ref 0), some (.int (nI k)), some (.int (nI sg))] [.int 0] (rdH (nI lv) hel res lf lp sta bas obj nx sa kn vu f wa len cap keys dp ln mk pt sl cnt mark) rfl ?_
          exact aw_iret rfl (by decide) rfl ⟨by rw [show rd_cs k sg = false from (by rw [tk_c (k := 3) (by omega) (by omega) hz6_3]; have q64 := tk_n (k := 3) h64; have q69 := tk_n (k := 4) h69; have q75 := tk_n (k := 6) h75; simp [rd_cs, *])]; rfl, rfl⟩ rfl (Nat.le_refl _) (Nat.le_refl _) -- [.int 0] (rdH (nI lv) hel res lf lp sta bas obj nx sa kn vu f wa len cap keys dp ln mk pt sl cnt mark)
        · refine aw_go 2 83 [some (.ref 0), some (.int (nI k)), some (.int (nI sg))] [.int 1] (rdH (nI lv) hel res lf lp sta bas obj nx sa kn vu f wa len cap keys dp ln mk pt sl cnt mark) rfl ?_
          exact aw_iret rfl (by decide) rfl ⟨by rw [show rd_cs k sg = true from (by rw [tk_c (k := 3) (by omega) (by omega) hz6_3]; have q75 := tk_c (k := 6) (by omega) (by omega) h75; simp [rd_cs, *])]; rfl, rfl⟩ rfl (Nat.le_refl _) (Nat.le_refl _) -- [.int 1] (rdH (nI lv) hel res lf lp sta bas obj nx sa kn vu f wa len cap keys dp ln mk pt sl cnt mark)
  by_cases hz6_5 : nI k = 5
  · refine aw_lookK 5 45 51 hz6_5 rfl (by decide) ?_
    refine aw_go 2 53 [some (.ref 0), some (.int (nI k)), some (.int (nI sg))] [.int 4, .int (nI sg)] (rdH (nI lv) hel res lf lp sta bas obj nx sa kn vu f wa len cap keys dp ln mk pt sl cnt mark) rfl ?_
    refine aw_cmp_ne rfl (fun h53 => ?_) (fun h53 => ?_)
    · refine aw_go 1 61 [some (.ref 0), some (.int (nI k)), some (.int (nI sg))] [.int 0] (rdH (nI lv) hel res lf lp sta bas obj nx sa kn vu f wa len cap keys dp ln mk pt sl cnt mark) rfl ?_
      exact aw_iret rfl (by decide) rfl ⟨by rw [show rd_cs k sg = false from (by rw [tk_c (k := 5) (by omega) (by omega) hz6_5]; have q53 := tk_n (k := 4) h53; simp [rd_cs, *])]; rfl, rfl⟩ rfl (Nat.le_refl _) (Nat.le_refl _) -- [.int 0] (rdH (nI lv) hel res lf lp sta bas obj nx sa kn vu f wa len cap keys dp ln mk pt sl cnt mark)
    · refine aw_go 2 61 [some (.ref 0), some (.int (nI k)), some (.int (nI sg))] [.int 1] (rdH (nI lv) hel res lf lp sta bas obj nx sa kn vu f wa len cap keys dp ln mk pt sl cnt mark) rfl ?_
      exact aw_iret rfl (by decide) rfl ⟨by rw [show rd_cs k sg = true from (by rw [tk_c (k := 5) (by omega) (by omega) hz6_5]; have q53 := tk_c (k := 4) (by omega) (by omega) h53; simp [rd_cs, *])]; rfl, rfl⟩ rfl (Nat.le_refl _) (Nat.le_refl _) -- [.int 1] (rdH (nI lv) hel res lf lp sta bas obj nx sa kn vu f wa len cap keys dp ln mk pt sl cnt mark)
  refine aw_lookD 84 rfl (by decide) (by show Op.lookupswitch.offset [(0, 34), (3, 56), (5, 45)] 78 _ = _; rw [lv_osw hz6_0 (by decide)]; rw [lv_osw hz6_3 (by decide)]; rw [lv_osw hz6_5 (by decide)]; rfl) (by decide) ?_
  refine aw_go 2 86 [some (.ref 0), some (.int (nI k)), some (.int (nI sg))] [.int 1, .int (nI sg)] (rdH (nI lv) hel res lf lp sta bas obj nx sa kn vu f wa len cap keys dp ln mk pt sl cnt mark) rfl ?_
  refine aw_cmp_eq rfl (fun h86 => ?_) (fun h86 => ?_)
  · refine aw_go 1 100 [some (.ref 0), some (.int (nI k)), some (.int (nI sg))] [.int 0] (rdH (nI lv) hel res lf lp sta bas obj nx sa kn vu f wa len cap keys dp ln mk pt sl cnt mark) rfl ?_
    exact aw_iret rfl (by decide) rfl ⟨by rw [show rd_cs k sg = false from (by have d0 := tk_n (k := 0) hz6_0; have d3 := tk_n (k := 3) hz6_3; have d5 := tk_n (k := 5) hz6_5; have q86 := tk_c (k := 1) (by omega) (by omega) h86; simp [rd_cs, *])]; rfl, rfl⟩ rfl (Nat.le_refl _) (Nat.le_refl _) -- [.int 0] (rdH (nI lv) hel res lf lp sta bas obj nx sa kn vu f wa len cap keys dp ln mk pt sl cnt mark)
  · refine aw_go 2 92 [some (.ref 0), some (.int (nI k)), some (.int (nI sg))] [.int 6, .int (nI sg)] (rdH (nI lv) hel res lf lp sta bas obj nx sa kn vu f wa len cap keys dp ln mk pt sl cnt mark) rfl ?_
    refine aw_cmp_eq rfl (fun h92 => ?_) (fun h92 => ?_)
    · refine aw_go 1 100 [some (.ref 0), some (.int (nI k)), some (.int (nI sg))] [.int 0] (rdH (nI lv) hel res lf lp sta bas obj nx sa kn vu f wa len cap keys dp ln mk pt sl cnt mark) rfl ?_
      exact aw_iret rfl (by decide) rfl ⟨by rw [show rd_cs k sg = false from (by have d0 := tk_n (k := 0) hz6_0; have d3 := tk_n (k := 3) hz6_3; have d5 := tk_n (k := 5) hz6_5; have q92 := tk_c (k := 6) (by omega) (by omega) h92; simp [rd_cs, *])]; rfl, rfl⟩ rfl (Nat.le_refl _) (Nat.le_refl _) -- [.int 0] (rdH (nI lv) hel res lf lp sta bas obj nx sa kn vu f wa len cap keys dp ln mk pt sl cnt mark)
    · refine aw_go 2 100 [some (.ref 0), some (.int (nI k)), some (.int (nI sg))] [.int 1] (rdH (nI lv) hel res lf lp sta bas obj nx sa kn vu f wa len cap keys dp ln mk pt sl cnt mark) rfl ?_
      exact aw_iret rfl (by decide) rfl ⟨by rw [show rd_cs k sg = true from (by have d0 := tk_n (k := 0) hz6_0; have d3 := tk_n (k := 3) hz6_3; have d5 := tk_n (k := 5) hz6_5; have q86 := tk_n (k := 1) h86; have q92 := tk_n (k := 6) h92; simp [rd_cs, *])]; rfl, rfl⟩ rfl (Nat.le_refl _) (Nat.le_refl _) -- [.int 1] (rdH (nI lv) hel res lf lp sta bas obj nx sa kn vu f wa len cap keys dp ln mk pt sl cnt mark)
