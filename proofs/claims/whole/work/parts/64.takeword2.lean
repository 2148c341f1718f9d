/-! Reader: takeWord, kind by kind -/
set_option maxHeartbeats 2000000 in
set_option maxRecDepth 100000 in
theorem c_Rd_takeWord_2 (l : Launch) (res lf lp nx sa len mark : Int32) (vu : Int64) (cap : Nat) (keys : Nat → Int64) (sta bas obj f wa dp ln mk pt sl : Nat → Int32) (n e0 : Nat) (t : Nat → Tr) (h : st_ok cap n e0 keys dp ln sl t) (lv hd : Nat) (fs : List Fr) (hR : rd_R lv hd res sta bas obj t n fs none) (hhd : hd < 1000) (hcap : n + hd + fs_pot fs + 2 ≤ cap) (T : Tr) (hsg6 : ps_sg fs none ≠ 6) (hlv : lv < 40) : Con l y_Rd_takeWord M_Rd_takeWord 4 102 [.ref 0] (rdH (nI lv) (nI hd) res lf lp sta bas obj nx sa 2 vu f wa len cap keys dp ln mk pt sl (nI n) mark) 15 0 0 0 (fun r h' => r = none ∧ ∃ (lv2 hd2 : Nat) (res2 : Int32) (sta2 bas2 obj2 : Nat → Int32) (n2 : Nat) (keys2 : Nat → Int64) (dp2 ln2 sl2 : Nat → Int32) (t2 : Nat → Tr), st_ok cap n2 e0 keys2 dp2 ln2 sl2 t2 ∧ rd_R lv2 hd2 res2 sta2 bas2 obj2 t2 n2 (ps_step fs none 2 T).1 (ps_step fs none 2 T).2 ∧ n ≤ n2 ∧ (∀ i, i < n → t2 i = t i) ∧ n2 + hd2 + fs_pot (ps_step fs none 2 T).1 ≤ n + hd + fs_pot fs + 2 ∧ h' = rdH (nI lv2) (nI hd2) res2 lf lp sta2 bas2 obj2 nx sa 2 vu f wa len cap keys2 dp2 ln2 mk pt sl2 (nI n2) mark) := by
  refine Con.ent ok_Rd_takeWord (by decide +kernel) rfl ?_
  intro pA eA sA mA argsA belowA methA cA GA μA
  refine aw_go 2 4 [some (.ref 0)] [.ref 1] (rdH (nI lv) (nI hd) res lf lp sta bas obj nx sa 2 vu f wa len cap keys dp ln mk pt sl (nI n) mark) rfl ?_
  refine aw_cV [1, 2, 3, 4] (c_Wd_kind l f wa len nx sa 2 vu) rfl cw_Rd_74 rfl rfl rfl rfl rfl rfl (Nat.le_refl _) (Nat.le_refl _) (fun r h' hp => ?_)
  obtain ⟨rfl, rfl⟩ := hp
  refine aw_go 0 7 [some (.ref 0)] [.int 2] (rdH (nI lv) (nI hd) res lf lp sta bas obj nx sa 2 vu f wa len cap keys dp ln mk pt sl (nI n) mark) rfl ?_
  refine aw_tabK 2 33 40 rfl rfl (by decide) ?_
  refine aw_go 2 42 [some (.ref 0)] [.int 3, .ref 0] (rdH (nI lv) (nI hd) res lf lp sta bas obj nx sa 2 vu f wa len cap keys dp ln mk pt sl (nI n) mark) rfl ?_
  refine aw_cV [0, 1, 2, 3, 4, 5, 6, 7, 8, 9, 10, 11, 12, 13, 14] (c_Rd_open l (nI hd) res lf lp nx sa 2 len (nI n) mark vu cap keys sta bas obj f wa dp ln mk pt sl lv hlv 3) rfl cw_Rd_99 rfl rfl rfl rfl rfl rfl (Nat.le_refl _) (Nat.le_refl _) (fun r h' hp => ?_)
  obtain ⟨rfl, rfl⟩ := hp
  refine aw_go 1 114 [some (.ref 0)] [] (rdH (nI (lv + 1)) (nI hd) res lf lp (upd sta (lv + 1) 3) (upd bas (lv + 1) (nI hd)) obj nx sa 2 vu f wa len cap keys dp ln mk pt sl (nI n) mark) rfl ?_
  exact aw_vret rfl rfl ⟨rfl, lv + 1, hd, res, upd sta (lv + 1) 3, upd bas (lv + 1) (nI hd), obj, n, keys, dp, ln, sl, t, h, hR.opn hsg6 hlv false rfl, Nat.le_refl _, fun _ _ => rfl, by show n + hd + (fs_pot fs + 1) ≤ _; omega, rfl⟩ rfl (Nat.le_refl _) (Nat.le_refl _) -- [] (rdH (nI (lv + 1)) (nI hd) res lf lp (upd sta (lv + 1) 3) (upd bas (lv + 1) (nI hd)) obj nx sa 2 vu f wa len cap keys dp ln mk pt sl (nI n) mark)
set_option maxHeartbeats 2000000 in
set_option maxRecDepth 100000 in
theorem c_Rd_takeWord_4 (l : Launch) (res lf lp nx sa len mark : Int32) (vu : Int64) (cap : Nat) (keys : Nat → Int64) (sta bas obj f wa dp ln mk pt sl : Nat → Int32) (n e0 : Nat) (t : Nat → Tr) (h : st_ok cap n e0 keys dp ln sl t) (lv hd : Nat) (fs : List Fr) (hR : rd_R lv hd res sta bas obj t n fs none) (hhd : hd < 1000) (hcap : n + hd + fs_pot fs + 2 ≤ cap) (T : Tr) (hsg6 : ps_sg fs none ≠ 6) (hlv : lv < 40) : Con l y_Rd_takeWord M_Rd_takeWord 4 102 [.ref 0] (rdH (nI lv) (nI hd) res lf lp sta bas obj nx sa 4 vu f wa len cap keys dp ln mk pt sl (nI n) mark) 15 0 0 0 (fun r h' => r = none ∧ ∃ (lv2 hd2 : Nat) (res2 : Int32) (sta2 bas2 obj2 : Nat → Int32) (n2 : Nat) (keys2 : Nat → Int64) (dp2 ln2 sl2 : Nat → Int32) (t2 : Nat → Tr), st_ok cap n2 e0 keys2 dp2 ln2 sl2 t2 ∧ rd_R lv2 hd2 res2 sta2 bas2 obj2 t2 n2 (ps_step fs none 4 T).1 (ps_step fs none 4 T).2 ∧ n ≤ n2 ∧ (∀ i, i < n → t2 i = t i) ∧ n2 + hd2 + fs_pot (ps_step fs none 4 T).1 ≤ n + hd + fs_pot fs + 2 ∧ h' = rdH (nI lv2) (nI hd2) res2 lf lp sta2 bas2 obj2 nx sa 4 vu f wa len cap keys2 dp2 ln2 mk pt sl2 (nI n2) mark) := by
  refine Con.ent ok_Rd_takeWord (by decide +kernel) rfl ?_
  intro pA eA sA mA argsA belowA methA cA GA μA
  refine aw_go 2 4 [some (.ref 0)] [.ref 1] (rdH (nI lv) (nI hd) res lf lp sta bas obj nx sa 4 vu f wa len cap keys dp ln mk pt sl (nI n) mark) rfl ?_
  refine aw_cV [1, 2, 3, 4] (c_Wd_kind l f wa len nx sa 4 vu) rfl cw_Rd_74 rfl rfl rfl rfl rfl rfl (Nat.le_refl _) (Nat.le_refl _) (fun r h' hp => ?_)
  obtain ⟨rfl, rfl⟩ := hp
  refine aw_go 0 7 [some (.ref 0)] [.int 4] (rdH (nI lv) (nI hd) res lf lp sta bas obj nx sa 4 vu f wa len cap keys dp ln mk pt sl (nI n) mark) rfl ?_
  refine aw_tabK 4 41 48 rfl rfl (by decide) ?_
  refine aw_go 2 50 [some (.ref 0)] [.int 2, .ref 0] (rdH (nI lv) (nI hd) res lf lp sta bas obj nx sa 4 vu f wa len cap keys dp ln mk pt sl (nI n) mark) rfl ?_
  refine aw_cV [0, 1, 2, 3, 4, 5, 6, 7, 8, 9, 10, 11, 12, 13, 14] (c_Rd_open l (nI hd) res lf lp nx sa 4 len (nI n) mark vu cap keys sta bas obj f wa dp ln mk pt sl lv hlv 2) rfl cw_Rd_99 rfl rfl rfl rfl rfl rfl (Nat.le_refl _) (Nat.le_refl _) (fun r h' hp => ?_)
  obtain ⟨rfl, rfl⟩ := hp
  refine aw_go 1 114 [some (.ref 0)] [] (rdH (nI (lv + 1)) (nI hd) res lf lp (upd sta (lv + 1) 2) (upd bas (lv + 1) (nI hd)) obj nx sa 4 vu f wa len cap keys dp ln mk pt sl (nI n) mark) rfl ?_
  exact aw_vret rfl rfl ⟨rfl, lv + 1, hd, res, upd sta (lv + 1) 2, upd bas (lv + 1) (nI hd), obj, n, keys, dp, ln, sl, t, h, hR.opn hsg6 hlv true rfl, Nat.le_refl _, fun _ _ => rfl, by show n + hd + (fs_pot fs + 2) ≤ _; omega, rfl⟩ rfl (Nat.le_refl _) (Nat.le_refl _) -- [] (rdH (nI (lv + 1)) (nI hd) res lf lp (upd sta (lv + 1) 2) (upd bas (lv + 1) (nI hd)) obj nx sa 4 vu f wa len cap keys dp ln mk pt sl (nI n) mark)
set_option maxHeartbeats 2000000 in
set_option maxRecDepth 100000 in
theorem c_Rd_takeWord_5 (l : Launch) (res lf lp nx sa len mark : Int32) (vu : Int64) (cap : Nat) (keys : Nat → Int64) (sta bas obj f wa dp ln mk pt sl : Nat → Int32) (n e0 : Nat) (t : Nat → Tr) (h : st_ok cap n e0 keys dp ln sl t) (lv hd : Nat) (x : Fr) (r0 : List Fr) (hR : rd_R lv hd res sta bas obj t n (x :: r0) none) (hhd : hd < 1000) (hcap : n + hd + fs_pot (x :: r0) + 2 ≤ cap) (T : Tr) (hsg4 : fr_sg x = 4) : Con l y_Rd_takeWord M_Rd_takeWord 4 102 [.ref 0] (rdH (nI lv) (nI hd) res lf lp sta bas obj nx sa 5 vu f wa len cap keys dp ln mk pt sl (nI n) mark) 15 0 0 0 (fun r h' => r = none ∧ ∃ (lv2 hd2 : Nat) (res2 : Int32) (sta2 bas2 obj2 : Nat → Int32) (n2 : Nat) (keys2 : Nat → Int64) (dp2 ln2 sl2 : Nat → Int32) (t2 : Nat → Tr), st_ok cap n2 e0 keys2 dp2 ln2 sl2 t2 ∧ rd_R lv2 hd2 res2 sta2 bas2 obj2 t2 n2 (ps_step (x :: r0) none 5 T).1 (ps_step (x :: r0) none 5 T).2 ∧ n ≤ n2 ∧ (∀ i, i < n → t2 i = t i) ∧ n2 + hd2 + fs_pot (ps_step (x :: r0) none 5 T).1 ≤ n + hd + fs_pot (x :: r0) + 2 ∧ h' = rdH (nI lv2) (nI hd2) res2 lf lp sta2 bas2 obj2 nx sa 5 vu f wa len cap keys2 dp2 ln2 mk pt sl2 (nI n2) mark) := by
  refine Con.ent ok_Rd_takeWord (by decide +kernel) rfl ?_
  intro pA eA sA mA argsA belowA methA cA GA μA
  refine aw_go 2 4 [some (.ref 0)] [.ref 1] (rdH (nI lv) (nI hd) res lf lp sta bas obj nx sa 5 vu f wa len cap keys dp ln mk pt sl (nI n) mark) rfl ?_
  refine aw_cV [1, 2, 3, 4] (c_Wd_kind l f wa len nx sa 5 vu) rfl cw_Rd_74 rfl rfl rfl rfl rfl rfl (Nat.le_refl _) (Nat.le_refl _) (fun r h' hp => ?_)
  obtain ⟨rfl, rfl⟩ := hp
  refine aw_go 0 7 [some (.ref 0)] [.int 5] (rdH (nI lv) (nI hd) res lf lp sta bas obj nx sa 5 vu f wa len cap keys dp ln mk pt sl (nI n) mark) rfl ?_
  refine aw_tabK 5 49 56 rfl rfl (by decide) ?_
  refine aw_go 2 58 [some (.ref 0)] [.int 5, .ref 0] (rdH (nI lv) (nI hd) res lf lp sta bas obj nx sa 5 vu f wa len cap keys dp ln mk pt sl (nI n) mark) rfl ?_
  refine aw_cV [0, 1, 2, 3, 4, 5, 6, 7, 8, 9, 10, 11, 12, 13, 14] (c_Rd_setStage l (nI hd) res lf lp nx sa 5 len (nI n) mark vu cap keys sta bas obj f wa dp ln mk pt sl lv (by have := hR.2.1; have := hR.1; omega) 5) rfl cw_Rd_103 rfl rfl rfl rfl rfl rfl (Nat.le_refl _) (Nat.le_refl _) (fun r h' hp => ?_)
  obtain ⟨rfl, rfl⟩ := hp
  refine aw_go 1 114 [some (.ref 0)] [] (rdH (nI lv) (nI hd) res lf lp (upd sta lv 5) bas obj nx sa 5 vu f wa len cap keys dp ln mk pt sl (nI n) mark) rfl ?_
  exact aw_vret rfl rfl ⟨rfl, lv, hd, res, upd sta lv 5, bas, obj, n, keys, dp, ln, sl, t, h, hR.dot hsg4, Nat.le_refl _, fun _ _ => rfl, by show n + hd + fs_pot (x :: r0) ≤ _; omega, rfl⟩ rfl (Nat.le_refl _) (Nat.le_refl _) -- [] (rdH (nI lv) (nI hd) res lf lp (upd sta lv 5) bas obj nx sa 5 vu f wa len cap keys dp ln mk pt sl (nI n) mark)
set_option maxHeartbeats 2000000 in
set_option maxRecDepth 100000 in
theorem c_Rd_takeWord_6 (l : Launch) (res lf lp nx sa len mark : Int32) (vu : Int64) (cap : Nat) (keys : Nat → Int64) (sta bas obj f wa dp ln mk pt sl : Nat → Int32) (n e0 : Nat) (t : Nat → Tr) (h : st_ok cap n e0 keys dp ln sl t) (lv hd : Nat) (fs : List Fr) (hR : rd_R lv hd res sta bas obj t n fs none) (hhd : hd < 1000) (hcap : n + hd + fs_pot fs + 2 ≤ cap) (T : Tr) (hsg6 : ps_sg fs none ≠ 6) (v : Nat) (hv : v < 4611686018427387904) (hTv : T = tr_nat v) : Con l y_Rd_takeWord M_Rd_takeWord 4 102 [.ref 0] (rdH (nI lv) (nI hd) res lf lp sta bas obj nx sa 6 (lN v) f wa len cap keys dp ln mk pt sl (nI n) mark) 15 0 0 0 (fun r h' => r = none ∧ ∃ (lv2 hd2 : Nat) (res2 : Int32) (sta2 bas2 obj2 : Nat → Int32) (n2 : Nat) (keys2 : Nat → Int64) (dp2 ln2 sl2 : Nat → Int32) (t2 : Nat → Tr), st_ok cap n2 e0 keys2 dp2 ln2 sl2 t2 ∧ rd_R lv2 hd2 res2 sta2 bas2 obj2 t2 n2 (ps_step fs none 6 T).1 (ps_step fs none 6 T).2 ∧ n ≤ n2 ∧ (∀ i, i < n → t2 i = t i) ∧ n2 + hd2 + fs_pot (ps_step fs none 6 T).1 ≤ n + hd + fs_pot fs + 2 ∧ h' = rdH (nI lv2) (nI hd2) res2 lf lp sta2 bas2 obj2 nx sa 6 (lN v) f wa len cap keys2 dp2 ln2 mk pt sl2 (nI n2) mark) := by
  refine Con.ent ok_Rd_takeWord (by decide +kernel) rfl ?_
  intro pA eA sA mA argsA belowA methA cA GA μA
  refine aw_go 2 4 [some (.ref 0)] [.ref 1] (rdH (nI lv) (nI hd) res lf lp sta bas obj nx sa 6 (lN v) f wa len cap keys dp ln mk pt sl (nI n) mark) rfl ?_
  refine aw_cV [1, 2, 3, 4] (c_Wd_kind l f wa len nx sa 6 (lN v)) rfl cw_Rd_74 rfl rfl rfl rfl rfl rfl (Nat.le_refl _) (Nat.le_refl _) (fun r h' hp => ?_)
  obtain ⟨rfl, rfl⟩ := hp
  refine aw_go 0 7 [some (.ref 0)] [.int 6] (rdH (nI lv) (nI hd) res lf lp sta bas obj nx sa 6 (lN v) f wa len cap keys dp ln mk pt sl (nI n) mark) rfl ?_
  refine aw_tabK 6 68 75 rfl rfl (by decide) ?_
  refine aw_go 5 84 [some (.ref 0)] [.ref 1, .ref 8, .ref 0] (rdH (nI lv) (nI hd) res lf lp sta bas obj nx sa 6 (lN v) f wa len cap keys dp ln mk pt sl (nI n) mark) rfl ?_
  refine aw_cV [1, 2, 3, 4] (c_Wd_value l f wa len nx sa 6 (lN v)) rfl cw_Rd_86 rfl rfl rfl rfl rfl rfl (Nat.le_refl _) (Nat.le_refl _) (fun r h' hp => ?_)
  obtain ⟨rfl, rfl⟩ := hp
  refine aw_go 0 87 [some (.ref 0)] [.long (lN v), .ref 8, .ref 0] (rdH (nI lv) (nI hd) res lf lp sta bas obj nx sa 6 (lN v) f wa len cap keys dp ln mk pt sl (nI n) mark) rfl ?_
  refine aw_cV [8, 9, 10, 11, 12, 13, 14] (c_St_naturalOf l cap n keys dp ln mk pt sl mark e0 t h v hv (by omega)) rfl cw_Rd_112 rfl rfl rfl rfl rfl rfl (Nat.le_refl _) (Nat.le_refl _) (fun r h' hp => ?_)
  obtain ⟨j, n2, keys2, dp2, ln2, sl2, t2, k1, k2, k3, k4, k5, k6, rfl, rfl⟩ := hp
  refine aw_go 0 90 [some (.ref 0)] [.int (nI j), .ref 0] (rdH (nI lv) (nI hd) res lf lp sta bas obj nx sa 6 (lN v) f wa len cap keys2 dp2 ln2 mk pt sl2 (nI n2) mark) rfl ?_
  refine aw_cV [0, 1, 2, 3, 4, 5, 6, 7, 8, 9, 10, 11, 12, 13, 14] (c_Rd_place l res lf lp nx sa 6 len mark (lN v) cap keys2 sta bas obj f wa dp2 ln2 mk pt sl2 n2 e0 t2 k1 lv hd fs (hR.ext k4 k6) hsg6 hhd j k2 (by omega)) rfl cw_Rd_109 rfl rfl rfl rfl rfl rfl (Nat.le_refl _) (Nat.le_refl _) (fun r h' hp => ?_)
  obtain ⟨rfl, lv2, hd2, res2, sta2, bas2, obj2, n3, keys3, dp3, ln3, sl3, t3, p1, p2, p3, p4, p5, rfl⟩ := hp
  refine aw_go 1 114 [some (.ref 0)] [] (rdH (nI lv2) (nI hd2) res2 lf lp sta2 bas2 obj2 nx sa 6 (lN v) f wa len cap keys3 dp3 ln3 mk pt sl3 (nI n3) mark) rfl ?_
  exact aw_vret rfl rfl ⟨rfl, lv2, hd2, res2, sta2, bas2, obj2, n3, keys3, dp3, ln3, sl3, t3, p1, by rw [k3, ← hTv] at p2; exact p2, by omega, fun i hi => by rw [p4 i (by omega)]; exact k6 i hi, by rw [k3, ← hTv] at p5; show n3 + hd2 + fs_pot (ps_del fs T).1 ≤ _; omega, rfl⟩ rfl (Nat.le_refl _) (Nat.le_refl _) -- [] (rdH (nI lv2) (nI hd2) res2 lf lp sta2 bas2 obj2 nx sa 6 (lN v) f wa len cap keys3 dp3 ln3 mk pt sl3 (nI n3) mark)
set_option maxHeartbeats 2000000 in
set_option maxRecDepth 100000 in
theorem c_Rd_takeWord_7 (l : Launch) (res lf lp nx sa len mark : Int32) (vu : Int64) (cap : Nat) (keys : Nat → Int64) (sta bas obj f wa dp ln mk pt sl : Nat → Int32) (n e0 : Nat) (t : Nat → Tr) (h : st_ok cap n e0 keys dp ln sl t) (lv hd : Nat) (fs : List Fr) (hR : rd_R lv hd res sta bas obj t n fs none) (hhd : hd < 1000) (hcap : n + hd + fs_pot fs + 2 ≤ cap) (T : Tr) (hsg6 : ps_sg fs none ≠ 6) (v : Nat) (hv : v < 4611686018427387904) (hTv : T = tr_sym v) : Con l y_Rd_takeWord M_Rd_takeWord 4 102 [.ref 0] (rdH (nI lv) (nI hd) res lf lp sta bas obj nx sa 7 (lN v) f wa len cap keys dp ln mk pt sl (nI n) mark) 15 0 0 0 (fun r h' => r = none ∧ ∃ (lv2 hd2 : Nat) (res2 : Int32) (sta2 bas2 obj2 : Nat → Int32) (n2 : Nat) (keys2 : Nat → Int64) (dp2 ln2 sl2 : Nat → Int32) (t2 : Nat → Tr), st_ok cap n2 e0 keys2 dp2 ln2 sl2 t2 ∧ rd_R lv2 hd2 res2 sta2 bas2 obj2 t2 n2 (ps_step fs none 7 T).1 (ps_step fs none 7 T).2 ∧ n ≤ n2 ∧ (∀ i, i < n → t2 i = t i) ∧ n2 + hd2 + fs_pot (ps_step fs none 7 T).1 ≤ n + hd + fs_pot fs + 2 ∧ h' = rdH (nI lv2) (nI hd2) res2 lf lp sta2 bas2 obj2 nx sa 7 (lN v) f wa len cap keys2 dp2 ln2 mk pt sl2 (nI n2) mark) := by
  refine Con.ent ok_Rd_takeWord (by decide +kernel) rfl ?_
  intro pA eA sA mA argsA belowA methA cA GA μA
  refine aw_go 2 4 [some (.ref 0)] [.ref 1] (rdH (nI lv) (nI hd) res lf lp sta bas obj nx sa 7 (lN v) f wa len cap keys dp ln mk pt sl (nI n) mark) rfl ?_
  refine aw_cV [1, 2, 3, 4] (c_Wd_kind l f wa len nx sa 7 (lN v)) rfl cw_Rd_74 rfl rfl rfl rfl rfl rfl (Nat.le_refl _) (Nat.le_refl _) (fun r h' hp => ?_)
  obtain ⟨rfl, rfl⟩ := hp
  refine aw_go 0 7 [some (.ref 0)] [.int 7] (rdH (nI lv) (nI hd) res lf lp sta bas obj nx sa 7 (lN v) f wa len cap keys dp ln mk pt sl (nI n) mark) rfl ?_
  refine aw_tabD 96 rfl (by decide) (by decide) ?_
  refine aw_go 5 105 [some (.ref 0)] [.ref 1, .ref 8, .ref 0] (rdH (nI lv) (nI hd) res lf lp sta bas obj nx sa 7 (lN v) f wa len cap keys dp ln mk pt sl (nI n) mark) rfl ?_
  refine aw_cV [1, 2, 3, 4] (c_Wd_value l f wa len nx sa 7 (lN v)) rfl cw_Rd_86 rfl rfl rfl rfl rfl rfl (Nat.le_refl _) (Nat.le_refl _) (fun r h' hp => ?_)
  obtain ⟨rfl, rfl⟩ := hp
  refine aw_go 0 108 [some (.ref 0)] [.long (lN v), .ref 8, .ref 0] (rdH (nI lv) (nI hd) res lf lp sta bas obj nx sa 7 (lN v) f wa len cap keys dp ln mk pt sl (nI n) mark) rfl ?_
  refine aw_cV [8, 9, 10, 11, 12, 13, 14] (c_St_symbolOf l cap n keys dp ln mk pt sl mark e0 t h v hv (by omega)) rfl cw_Rd_116 rfl rfl rfl rfl rfl rfl (Nat.le_refl _) (Nat.le_refl _) (fun r h' hp => ?_)
  obtain ⟨j, n2, keys2, dp2, ln2, sl2, t2, k1, k2, k3, k4, k5, k6, rfl, rfl⟩ := hp
  refine aw_go 0 111 [some (.ref 0)] [.int (nI j), .ref 0] (rdH (nI lv) (nI hd) res lf lp sta bas obj nx sa 7 (lN v) f wa len cap keys2 dp2 ln2 mk pt sl2 (nI n2) mark) rfl ?_
  refine aw_cV [0, 1, 2, 3, 4, 5, 6, 7, 8, 9, 10, 11, 12, 13, 14] (c_Rd_place l res lf lp nx sa 7 len mark (lN v) cap keys2 sta bas obj f wa dp2 ln2 mk pt sl2 n2 e0 t2 k1 lv hd fs (hR.ext k4 k6) hsg6 hhd j k2 (by omega)) rfl cw_Rd_109 rfl rfl rfl rfl rfl rfl (Nat.le_refl _) (Nat.le_refl _) (fun r h' hp => ?_)
  obtain ⟨rfl, lv2, hd2, res2, sta2, bas2, obj2, n3, keys3, dp3, ln3, sl3, t3, p1, p2, p3, p4, p5, rfl⟩ := hp
  refine aw_go 0 114 [some (.ref 0)] [] (rdH (nI lv2) (nI hd2) res2 lf lp sta2 bas2 obj2 nx sa 7 (lN v) f wa len cap keys3 dp3 ln3 mk pt sl3 (nI n3) mark) rfl ?_
  exact aw_vret rfl rfl ⟨rfl, lv2, hd2, res2, sta2, bas2, obj2, n3, keys3, dp3, ln3, sl3, t3, p1, by rw [k3, ← hTv] at p2; exact p2, by omega, fun i hi => by rw [p4 i (by omega)]; exact k6 i hi, by rw [k3, ← hTv] at p5; show n3 + hd2 + fs_pot (ps_del fs T).1 ≤ _; omega, rfl⟩ rfl (Nat.le_refl _) (Nat.le_refl _) -- [] (rdH (nI lv2) (nI hd2) res2 lf lp sta2 bas2 obj2 nx sa 7 (lN v) f wa len cap keys3 dp3 ln3 mk pt sl3 (nI n3) mark)
set_option maxHeartbeats 2000000 in
set_option maxRecDepth 100000 in
theorem c_Rd_takeWord_3p (l : Launch) (res lf lp nx sa len mark : Int32) (vu : Int64) (cap : Nat) (keys : Nat → Int64) (sta bas obj f wa dp ln mk pt sl : Nat → Int32) (n e0 : Nat) (t : Nat → Tr) (h : st_ok cap n e0 keys dp ln sl t) (lv hd : Nat) (x : Fr) (r0 : List Fr) (hR : rd_R lv hd res sta bas obj t n (x :: r0) none) (hhd : hd < 1000) (hcap : n + hd + fs_pot (x :: r0) + 2 ≤ cap) (T : Tr) (hsg3 : fr_sg x = 3 ∨ fr_sg x = 4 ∨ fr_sg x = 6) (hx2 : x.2.1 = 0) (hlq : lv = r0.length + 1) (hhq : hd = (fs_ob r0).length + x.2.2.1.length) : Con l y_Rd_takeWord M_Rd_takeWord 4 102 [.ref 0] (rdH (nI lv) (nI hd) res lf lp sta bas obj nx sa 3 vu f wa len cap keys dp ln mk pt sl (nI n) mark) 15 0 0 0 (fun r h' => r = none ∧ ∃ (lv2 hd2 : Nat) (res2 : Int32) (sta2 bas2 obj2 : Nat → Int32) (n2 : Nat) (keys2 : Nat → Int64) (dp2 ln2 sl2 : Nat → Int32) (t2 : Nat → Tr), st_ok cap n2 e0 keys2 dp2 ln2 sl2 t2 ∧ rd_R lv2 hd2 res2 sta2 bas2 obj2 t2 n2 (ps_step (x :: r0) none 3 T).1 (ps_step (x :: r0) none 3 T).2 ∧ n ≤ n2 ∧ (∀ i, i < n → t2 i = t i) ∧ n2 + hd2 + fs_pot (ps_step (x :: r0) none 3 T).1 ≤ n + hd + fs_pot (x :: r0) + 2 ∧ h' = rdH (nI lv2) (nI hd2) res2 lf lp sta2 bas2 obj2 nx sa 3 vu f wa len cap keys2 dp2 ln2 mk pt sl2 (nI n2) mark) := by
  obtain ⟨q1, q2, q3, q4, q5, q6, q7, q8⟩ := hR.clo hsg3
  have hpc := fs_pot_cons x r0
  have htr : fr_tr x = x.2.2.1.foldr .op tr_nil := by unfold fr_tr; rw [if_neg (by omega)]
  have hq5 : fr_sg x < 6 := by rcases q8 with ⟨-, a, -⟩ | ⟨a, -⟩; exact a; omega
  subst hlq
  subst hhq
  refine Con.ent ok_Rd_takeWord (by decide +kernel) rfl ?_
  intro pA eA sA mA argsA belowA methA cA GA μA
  refine aw_go 2 4 [some (.ref 0)] [.ref 1] (rdH (nI (r0.length + 1)) (nI ((fs_ob r0).length + x.2.2.1.length)) res lf lp sta bas obj nx sa 3 vu f wa len cap keys dp ln mk pt sl (nI n) mark) rfl ?_
  refine aw_cV [1, 2, 3, 4] (c_Wd_kind l f wa len nx sa 3 vu) rfl cw_Rd_74 rfl rfl rfl rfl rfl rfl (Nat.le_refl _) (Nat.le_refl _) (fun r h' hp => ?_)
  obtain ⟨rfl, rfl⟩ := hp
  refine aw_go 0 7 [some (.ref 0)] [.int 3] (rdH (nI (r0.length + 1)) (nI ((fs_ob r0).length + x.2.2.1.length)) res lf lp sta bas obj nx sa 3 vu f wa len cap keys dp ln mk pt sl (nI n) mark) rfl ?_
  refine aw_tabK 3 57 64 rfl rfl (by decide) ?_
  refine aw_go 2 66 [some (.ref 0)] [.ref 0, .ref 0] (rdH (nI (r0.length + 1)) (nI ((fs_ob r0).length + x.2.2.1.length)) res lf lp sta bas obj nx sa 3 vu f wa len cap keys dp ln mk pt sl (nI n) mark) rfl ?_
  refine aw_cV [0, 1, 2, 3, 4, 5, 6, 7, 8, 9, 10, 11, 12, 13, 14] (c_Rd_closeList_p l res lf lp nx sa 3 len mark vu cap keys sta bas obj f wa dp ln mk pt sl n e0 t h r0.length (fs_ob r0).length q2 x.2.2.1 (by omega) q3 q4 (by omega) (fr_sg x) hq5 q7) rfl cw_Rd_106 rfl rfl rfl rfl rfl rfl (Nat.le_refl _) (Nat.le_refl _) (fun r h' hp => ?_)
  obtain ⟨j, n2, keys2, dp2, ln2, sl2, t2, k1, k2, k3, k4, k5, k6, rfl, rfl⟩ := hp
  refine aw_go 0 69 [some (.ref 0)] [.int (nI j), .ref 0] (rdH (nI r0.length) (nI (fs_ob r0).length) res lf lp sta bas obj nx sa 3 vu f wa len cap keys2 dp2 ln2 mk pt sl2 (nI n2) mark) rfl ?_
  refine aw_cV [0, 1, 2, 3, 4, 5, 6, 7, 8, 9, 10, 11, 12, 13, 14] (c_Rd_place l res lf lp nx sa 3 len mark vu cap keys2 sta bas obj f wa dp2 ln2 mk pt sl2 n2 e0 t2 k1 r0.length (fs_ob r0).length r0 (q5.ext k4 k6) q6 (by omega) j k2 (by omega)) rfl cw_Rd_109 rfl rfl rfl rfl rfl rfl (Nat.le_refl _) (Nat.le_refl _) (fun r h' hp => ?_)
  obtain ⟨rfl, lv2, hd2, res2, sta2, bas2, obj2, n3, keys3, dp3, ln3, sl3, t3, p1, p2, p3, p4, p5, rfl⟩ := hp
  refine aw_go 1 114 [some (.ref 0)] [] (rdH (nI lv2) (nI hd2) res2 lf lp sta2 bas2 obj2 nx sa 3 vu f wa len cap keys3 dp3 ln3 mk pt sl3 (nI n3) mark) rfl ?_
  exact aw_vret rfl rfl ⟨rfl, lv2, hd2, res2, sta2, bas2, obj2, n3, keys3, dp3, ln3, sl3, t3, p1, by rw [k3, ← htr] at p2; exact p2, by omega, fun i hi => by rw [p4 i (by omega)]; exact k6 i hi, by rw [k3, ← htr] at p5; show n3 + hd2 + fs_pot (ps_del r0 (fr_tr x)).1 ≤ _; omega, rfl⟩ rfl (Nat.le_refl _) (Nat.le_refl _) -- [] (rdH (nI lv2) (nI hd2) res2 lf lp sta2 bas2 obj2 nx sa 3 vu f wa len cap keys3 dp3 ln3 mk pt sl3 (nI n3) mark)
set_option maxHeartbeats 2000000 in
set_option maxRecDepth 100000 in
theorem c_Rd_takeWord_3d (l : Launch) (res lf lp nx sa len mark : Int32) (vu : Int64) (cap : Nat) (keys : Nat → Int64) (sta bas obj f wa dp ln mk pt sl : Nat → Int32) (n e0 : Nat) (t : Nat → Tr) (h : st_ok cap n e0 keys dp ln sl t) (lv hd : Nat) (x : Fr) (r0 : List Fr) (hR : rd_R lv hd res sta bas obj t n (x :: r0) none) (hhd : hd < 1000) (hcap : n + hd + fs_pot (x :: r0) + 2 ≤ cap) (T : Tr) (hsg3 : fr_sg x = 3 ∨ fr_sg x = 4 ∨ fr_sg x = 6) (hx2 : x.2.1 = 2) (hlq : lv = r0.length + 1) (hhq : hd = (fs_ob r0).length + x.2.2.1.length + 1) : Con l y_Rd_takeWord M_Rd_takeWord 4 102 [.ref 0] (rdH (nI lv) (nI hd) res lf lp sta bas obj nx sa 3 vu f wa len cap keys dp ln mk pt sl (nI n) mark) 15 0 0 0 (fun r h' => r = none ∧ ∃ (lv2 hd2 : Nat) (res2 : Int32) (sta2 bas2 obj2 : Nat → Int32) (n2 : Nat) (keys2 : Nat → Int64) (dp2 ln2 sl2 : Nat → Int32) (t2 : Nat → Tr), st_ok cap n2 e0 keys2 dp2 ln2 sl2 t2 ∧ rd_R lv2 hd2 res2 sta2 bas2 obj2 t2 n2 (ps_step (x :: r0) none 3 T).1 (ps_step (x :: r0) none 3 T).2 ∧ n ≤ n2 ∧ (∀ i, i < n → t2 i = t i) ∧ n2 + hd2 + fs_pot (ps_step (x :: r0) none 3 T).1 ≤ n + hd + fs_pot (x :: r0) + 2 ∧ h' = rdH (nI lv2) (nI hd2) res2 lf lp sta2 bas2 obj2 nx sa 3 vu f wa len cap keys2 dp2 ln2 mk pt sl2 (nI n2) mark) := by
  obtain ⟨q1, q2, q3, q4, q5, q6, q7, q8⟩ := hR.clo hsg3
  have hpc := fs_pot_cons x r0
  have htr : fr_tr x = x.2.2.1.foldr .op x.2.2.2 := by unfold fr_tr; rw [if_pos hx2]
  obtain ⟨hq5, i0, hi0, hoi0, hti0⟩ : sta (r0.length + 1) = nI 6 ∧ ∃ i, i < n ∧ obj ((fs_ob r0).length + x.2.2.1.length) = nI i ∧ t i = x.2.2.2 := by
    rcases q8 with ⟨a, -⟩ | ⟨-, b, -, c⟩
    · omega
    · exact ⟨by rw [q7, b], c⟩
  subst hlq
  subst hhq
  refine Con.ent ok_Rd_takeWord (by decide +kernel) rfl ?_
  intro pA eA sA mA argsA belowA methA cA GA μA
  refine aw_go 2 4 [some (.ref 0)] [.ref 1] (rdH (nI (r0.length + 1)) (nI ((fs_ob r0).length + x.2.2.1.length + 1)) res lf lp sta bas obj nx sa 3 vu f wa len cap keys dp ln mk pt sl (nI n) mark) rfl ?_
  refine aw_cV [1, 2, 3, 4] (c_Wd_kind l f wa len nx sa 3 vu) rfl cw_Rd_74 rfl rfl rfl rfl rfl rfl (Nat.le_refl _) (Nat.le_refl _) (fun r h' hp => ?_)
  obtain ⟨rfl, rfl⟩ := hp
  refine aw_go 0 7 [some (.ref 0)] [.int 3] (rdH (nI (r0.length + 1)) (nI ((fs_ob r0).length + x.2.2.1.length + 1)) res lf lp sta bas obj nx sa 3 vu f wa len cap keys dp ln mk pt sl (nI n) mark) rfl ?_
  refine aw_tabK 3 57 64 rfl rfl (by decide) ?_
  refine aw_go 2 66 [some (.ref 0)] [.ref 0, .ref 0] (rdH (nI (r0.length + 1)) (nI ((fs_ob r0).length + x.2.2.1.length + 1)) res lf lp sta bas obj nx sa 3 vu f wa len cap keys dp ln mk pt sl (nI n) mark) rfl ?_
  refine aw_cV [0, 1, 2, 3, 4, 5, 6, 7, 8, 9, 10, 11, 12, 13, 14] (c_Rd_closeList_d l res lf lp nx sa 3 len mark vu cap keys sta bas obj f wa dp ln mk pt sl n e0 t h r0.length (fs_ob r0).length q2 x.2.2.1 (by omega) q3 q4 (by omega) hq5 x.2.2.2 i0 hi0 hoi0 hti0) rfl cw_Rd_106 rfl rfl rfl rfl rfl rfl (Nat.le_refl _) (Nat.le_refl _) (fun r h' hp => ?_)
  obtain ⟨j, n2, keys2, dp2, ln2, sl2, t2, k1, k2, k3, k4, k5, k6, rfl, rfl⟩ := hp
  refine aw_go 0 69 [some (.ref 0)] [.int (nI j), .ref 0] (rdH (nI r0.length) (nI (fs_ob r0).length) res lf lp sta bas obj nx sa 3 vu f wa len cap keys2 dp2 ln2 mk pt sl2 (nI n2) mark) rfl ?_
  refine aw_cV [0, 1, 2, 3, 4, 5, 6, 7, 8, 9, 10, 11, 12, 13, 14] (c_Rd_place l res lf lp nx sa 3 len mark vu cap keys2 sta bas obj f wa dp2 ln2 mk pt sl2 n2 e0 t2 k1 r0.length (fs_ob r0).length r0 (q5.ext k4 k6) q6 (by omega) j k2 (by omega)) rfl cw_Rd_109 rfl rfl rfl rfl rfl rfl (Nat.le_refl _) (Nat.le_refl _) (fun r h' hp => ?_)
  obtain ⟨rfl, lv2, hd2, res2, sta2, bas2, obj2, n3, keys3, dp3, ln3, sl3, t3, p1, p2, p3, p4, p5, rfl⟩ := hp
  refine aw_go 1 114 [some (.ref 0)] [] (rdH (nI lv2) (nI hd2) res2 lf lp sta2 bas2 obj2 nx sa 3 vu f wa len cap keys3 dp3 ln3 mk pt sl3 (nI n3) mark) rfl ?_
  exact aw_vret rfl rfl ⟨rfl, lv2, hd2, res2, sta2, bas2, obj2, n3, keys3, dp3, ln3, sl3, t3, p1, by rw [k3, ← htr] at p2; exact p2, by omega, fun i hi => by rw [p4 i (by omega)]; exact k6 i hi, by rw [k3, ← htr] at p5; show n3 + hd2 + fs_pot (ps_del r0 (fr_tr x)).1 ≤ _; omega, rfl⟩ rfl (Nat.le_refl _) (Nat.le_refl _) -- [] (rdH (nI lv2) (nI hd2) res2 lf lp sta2 bas2 obj2 nx sa 3 vu f wa len cap keys3 dp3 ln3 mk pt sl3 (nI n3) mark)
