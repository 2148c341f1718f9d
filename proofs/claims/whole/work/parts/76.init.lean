/-! the constructors -/
theorem si_no : ∀ j, j < 1 → (vp_updL (fun _ => 0) 0 (lN (4 * sy_nil + 1))) j ≠ lN (4 * sy_quote + 1) := by
  intro j hj
  rw [show j = 0 by omega, pk_uLs]
  intro q
  exact absurd (lN_inj (by decide) (by decide) q) (by decide)
theorem si_ok {sl : Nat → Int32} (h : st_tb 128 2 8 (vp_updL (vp_updL (fun _ => 0) 0 (lN (4 * sy_nil + 1))) 1 (lN (4 * sy_quote + 1))) sl) : st_ok 128 2 8 (vp_updL (vp_updL (fun _ => 0) 0 (lN (4 * sy_nil + 1))) 1 (lN (4 * sy_quote + 1))) (upd (upd (fun _ => 0) 0 0) 1 0) (upd (upd (upd (fun _ => 0) 0 (-1)) 1 (-1)) 0 0) sl (fun i => if i = 0 then tr_nil else tr_quote) := by
  refine ⟨h, fun i hi => ?_, Nat.le_refl _, rfl, rfl⟩
  rcases (show i = 0 ∨ i = 1 by omega) with rfl | rfl
  · refine ⟨rfl, Nat.le_refl _, rfl, fun q hq => ?_, Or.inr (Or.inl ⟨sy_nil, by decide, ?_, rfl⟩)⟩
    · cases hq; exact Nat.le_refl _
    · rw [pk_uLn (by decide), pk_uLs]
  · refine ⟨rfl, by decide, rfl, fun q hq => ?_, Or.inr (Or.inl ⟨sy_quote, by decide, ?_, rfl⟩)⟩
    · cases hq
    · rw [pk_uLs]
set_option maxHeartbeats 2000000 in
set_option maxRecDepth 100000 in
theorem c_St_symR (l : Launch) (cap n : Nat) (keys : Nat → Int64) (dp ln mk pt sl : Nat → Int32) (mark : Int32) (v e0 : Nat) (h : st_tb cap n e0 keys sl) (hv : v < 4611686018427387904) (hn : n < cap) (hno : ∀ j, j < n → keys j ≠ lN (4 * v + 1)) : Con l y_St_symbolOf M_St_symbolOf 2 54 [.ref 0, .long (lN v)] (stH cap keys dp ln mk pt sl (nI n) mark) 7 0 0 0 (fun r h' => r = some (.int (nI n)) ∧ ∃ sl2, st_tb cap (n + 1) e0 (vp_updL keys n (lN (4 * v + 1))) sl2 ∧ h' = stH cap (vp_updL keys n (lN (4 * v + 1))) (upd dp n 0) (upd ln n (-1)) mk pt sl2 (nI (n + 1)) mark) := by
  refine Con.ent ok_St_symbolOf (by decide +kernel) rfl ?_
  intro pA eA sA mA argsA belowA methA cA GA μA
  refine aw_go 5 5 [some (.ref 0), some (.long (lN v)), none] [.int (-1), .int 0, .long (lN v), .int 1, .ref 0] (stH cap keys dp ln mk pt sl (nI n) mark) rfl ?_
  refine aw_cV [0, 1, 2, 3, 4, 5, 6] (c_St_numberOf l cap n keys dp ln mk pt sl mark v 1 0 (-1) e0 h hv (by omega) hn) rfl cw_St_59 rfl rfl rfl rfl rfl rfl (Nat.le_refl _) (Nat.le_refl _) (fun r h' hp => ?_)
  have hp0 := hp
  rcases hp0 with ⟨j, hj, hjk, -⟩ | ⟨-, rfl, sl2, htb, rfl⟩
  · exact absurd hjk (hno j hj)
  refine aw_go 0 8 [some (.ref 0), some (.long (lN v)), none] [.int (nI n)] (stH cap (vp_updL keys n (lN (4 * v + 1))) (upd dp n 0) (upd ln n (-1)) mk pt sl2 (nI (n + 1)) mark) rfl ?_
  exact aw_iret rfl rfl rfl ⟨rfl, sl2, htb, rfl⟩ rfl (Nat.le_refl _) (Nat.le_refl _) -- [.int (nI n)] (stH cap (vp_updL keys n (lN (4 * v + 1))) (upd dp n 0) (upd ln n (-1)) mk pt sl2 (nI (n + 1)) mark)
set_option maxHeartbeats 2000000 in
set_option maxRecDepth 100000 in
theorem c_St_init (l : Launch)  : Con l y_St_init M_St_init 6 136 [.ref 0] [.inr (3, [.null, .null, .null, .null, .null, .null, .int 0, .int 0])] 1 6 6 896 (fun r h' => r = none ∧ ∃ keys dp ln sl t, st_ok 128 2 8 keys dp ln sl t ∧ h' = stH 128 keys dp ln (fun _ => 0) (fun _ => 0) sl (nI 2) 0) := by
  refine Con.ent ok_St_init (by decide +kernel) rfl ?_
  intro pA eA sA mA argsA belowA methA cA GA μA
  refine aw_go 1 1 [some (.ref 0)] [.ref 0] [.inr (3, [.null, .null, .null, .null, .null, .null, .int 0, .int 0])] rfl ?_
  refine aw_obj rfl (by decide +kernel) (Nat.le_of_ble_eq_true rfl) (Nat.le_of_ble_eq_true rfl) (Nat.le_of_ble_eq_true rfl) ?_
  refine aw_go 2 8 [some (.ref 0)] [.int 128, .ref 0] [.inr (3, [.null, .null, .null, .null, .null, .null, .int 0, .int 0])] rfl ?_
  refine aw_newa (N := 128) 1 rfl (by decide) rfl (by decide) (by decide) (by decide) (Nat.le_of_ble_eq_true rfl) (Nat.le_of_ble_eq_true rfl) (Nat.le_of_ble_eq_true rfl) ?_
  refine aw_go 3 17 [some (.ref 0)] [.int 128, .ref 0] [.inr (3, [.ref 1, .null, .null, .null, .null, .null, .int 0, .int 0]), .inl (1, 128, .inr (.inl (fun _ => 0)))] rfl ?_
  refine aw_newa (N := 128) 0 rfl (by decide) rfl (by decide) (by decide) (by decide) (Nat.le_of_ble_eq_true rfl) (Nat.le_of_ble_eq_true rfl) (Nat.le_of_ble_eq_true rfl) ?_
  refine aw_go 3 26 [some (.ref 0)] [.int 128, .ref 0] [.inr (3, [.ref 1, .ref 2, .null, .null, .null, .null, .int 0, .int 0]), .inl (1, 128, .inr (.inl (fun _ => 0))), .inl (0, 128, .inl (fun _ => 0))] rfl ?_
  refine aw_newa (N := 128) 0 rfl (by decide) rfl (by decide) (by decide) (by decide) (Nat.le_of_ble_eq_true rfl) (Nat.le_of_ble_eq_true rfl) (Nat.le_of_ble_eq_true rfl) ?_
  refine aw_go 3 35 [some (.ref 0)] [.int 128, .ref 0] [.inr (3, [.ref 1, .ref 2, .ref 3, .null, .null, .null, .int 0, .int 0]), .inl (1, 128, .inr (.inl (fun _ => 0))), .inl (0, 128, .inl (fun _ => 0)), .inl (0, 128, .inl (fun _ => 0))] rfl ?_
  refine aw_newa (N := 128) 0 rfl (by decide) rfl (by decide) (by decide) (by decide) (Nat.le_of_ble_eq_true rfl) (Nat.le_of_ble_eq_true rfl) (Nat.le_of_ble_eq_true rfl) ?_
  refine aw_go 3 44 [some (.ref 0)] [.int 128, .ref 0] [.inr (3, [.ref 1, .ref 2, .ref 3, .ref 4, .null, .null, .int 0, .int 0]), .inl (1, 128, .inr (.inl (fun _ => 0))), .inl (0, 128, .inl (fun _ => 0)), .inl (0, 128, .inl (fun _ => 0)), .inl (0, 128, .inl (fun _ => 0))] rfl ?_
  refine aw_newa (N := 128) 0 rfl (by decide) rfl (by decide) (by decide) (by decide) (Nat.le_of_ble_eq_true rfl) (Nat.le_of_ble_eq_true rfl) (Nat.le_of_ble_eq_true rfl) ?_
  refine aw_go 3 53 [some (.ref 0)] [.int 256, .ref 0] [.inr (3, [.ref 1, .ref 2, .ref 3, .ref 4, .ref 5, .null, .int 0, .int 0]), .inl (1, 128, .inr (.inl (fun _ => 0))), .inl (0, 128, .inl (fun _ => 0)), .inl (0, 128, .inl (fun _ => 0)), .inl (0, 128, .inl (fun _ => 0)), .inl (0, 128, .inl (fun _ => 0))] rfl ?_
  refine aw_newa (N := 256) 0 rfl (by decide) rfl (by decide) (by decide) (by decide) (Nat.le_of_ble_eq_true rfl) (Nat.le_of_ble_eq_true rfl) (Nat.le_of_ble_eq_true rfl) ?_
  refine aw_go 4 63 [some (.ref 0)] [.int (-1), .ref 6] [.inr (3, [.ref 1, .ref 2, .ref 3, .ref 4, .ref 5, .ref 6, .int 0, .int 0]), .inl (1, 128, .inr (.inl (fun _ => 0))), .inl (0, 128, .inl (fun _ => 0)), .inl (0, 128, .inl (fun _ => 0)), .inl (0, 128, .inl (fun _ => 0)), .inl (0, 128, .inl (fun _ => 0)), .inl (0, 256, .inl (fun _ => 0))] rfl ?_
  refine aw_cS [6] (c_Ja_fill l 256 (fun _ => 0) (-1) (by omega)) rfl cw_St_31 rfl rfl rfl rfl (Nat.le_of_ble_eq_true rfl) (Nat.le_of_ble_eq_true rfl) (fun r h' hp => ?_)
  obtain ⟨rfl, rfl⟩ := hp
  refine aw_go 2 69 [some (.ref 0)] [.ref 2000002, .ref 0] [.inr (3, [.ref 1, .ref 2, .ref 3, .ref 4, .ref 5, .ref 6, .int 0, .int 0]), .inl (1, 128, .inr (.inl (fun _ => 0))), .inl (0, 128, .inl (fun _ => 0)), .inl (0, 128, .inl (fun _ => 0)), .inl (0, 128, .inl (fun _ => 0)), .inl (0, 128, .inl (fun _ => 0)), .inl (0, 256, .inl (ar_fl 256 (fun _ => 0) (-1)))] rfl ?_
  refine aw_cS [] (c_Sg_codeOf_nil l) rfl cw_St_39 rfl rfl rfl rfl (Nat.le_of_ble_eq_true rfl) (Nat.le_of_ble_eq_true rfl) (fun r h' hp => ?_)
  obtain ⟨rfl, rfl⟩ := hp
  refine aw_go 0 72 [some (.ref 0)] [.long (lN sy_nil), .ref 0] [.inr (3, [.ref 1, .ref 2, .ref 3, .ref 4, .ref 5, .ref 6, .int 0, .int 0]), .inl (1, 128, .inr (.inl (fun _ => 0))), .inl (0, 128, .inl (fun _ => 0)), .inl (0, 128, .inl (fun _ => 0)), .inl (0, 128, .inl (fun _ => 0)), .inl (0, 128, .inl (fun _ => 0)), .inl (0, 256, .inl (ar_fl 256 (fun _ => 0) (-1)))] rfl ?_
  refine aw_cV [0, 1, 2, 3, 4, 5, 6] (c_St_symR l 128 0 (fun _ => 0) (fun _ => 0) (fun _ => 0) (fun _ => 0) (fun _ => 0) (ar_fl 256 (fun _ => 0) (-1)) 0 sy_nil 8 (gw_0 (m := 128) (by decide)) (by decide) (by decide) (fun j hj => absurd hj (Nat.not_lt_zero j))) rfl cw_St_45 rfl rfl rfl rfl rfl rfl (Nat.le_of_ble_eq_true rfl) (Nat.le_of_ble_eq_true rfl) (fun r h' hp => ?_)
  obtain ⟨rfl, sl1, htb1, rfl⟩ := hp
  refine aw_go 3 79 [some (.ref 0)] [.ref 2000003, .ref 0] [.inr (3, [.ref 1, .ref 2, .ref 3, .ref 4, .ref 5, .ref 6, .int (nI 1), .int 0]), .inl (1, 128, .inr (.inl (vp_updL (fun _ => 0) 0 (lN (4 * sy_nil + 1))))), .inl (0, 128, .inl (upd (fun _ => 0) 0 0)), .inl (0, 128, .inl (upd (fun _ => 0) 0 (-1))), .inl (0, 128, .inl (fun _ => 0)), .inl (0, 128, .inl (fun _ => 0)), .inl (0, (2 * 128), .inl sl1)] rfl ?_
  refine aw_cS [] (c_Sg_codeOf_quote l) rfl cw_St_39 rfl rfl rfl rfl (Nat.le_of_ble_eq_true rfl) (Nat.le_of_ble_eq_true rfl) (fun r h' hp => ?_)
  obtain ⟨rfl, rfl⟩ := hp
  refine aw_go 0 82 [some (.ref 0)] [.long (lN sy_quote), .ref 0] [.inr (3, [.ref 1, .ref 2, .ref 3, .ref 4, .ref 5, .ref 6, .int (nI 1), .int 0]), .inl (1, 128, .inr (.inl (vp_updL (fun _ => 0) 0 (lN (4 * sy_nil + 1))))), .inl (0, 128, .inl (upd (fun _ => 0) 0 0)), .inl (0, 128, .inl (upd (fun _ => 0) 0 (-1))), .inl (0, 128, .inl (fun _ => 0)), .inl (0, 128, .inl (fun _ => 0)), .inl (0, (2 * 128), .inl sl1)] rfl ?_
  refine aw_cV [0, 1, 2, 3, 4, 5, 6] (c_St_symR l 128 1 (vp_updL (fun _ => 0) 0 (lN (4 * sy_nil + 1))) (upd (fun _ => 0) 0 0) (upd (fun _ => 0) 0 (-1)) (fun _ => 0) (fun _ => 0) sl1 0 sy_quote 8 htb1 (by decide) (by decide) si_no) rfl cw_St_45 rfl rfl rfl rfl rfl rfl (Nat.le_of_ble_eq_true rfl) (Nat.le_of_ble_eq_true rfl) (fun r h' hp => ?_)
  obtain ⟨rfl, sl2, htb2, rfl⟩ := hp
  refine aw_go 5 92 [some (.ref 0)] [.int 0, .int 0, .ref 3] [.inr (3, [.ref 1, .ref 2, .ref 3, .ref 4, .ref 5, .ref 6, .int (nI 2), .int 0]), .inl (1, 128, .inr (.inl (vp_updL (vp_updL (fun _ => 0) 0 (lN (4 * sy_nil + 1))) 1 (lN (4 * sy_quote + 1))))), .inl (0, 128, .inl (upd (upd (fun _ => 0) 0 0) 1 0)), .inl (0, 128, .inl (upd (upd (fun _ => 0) 0 (-1)) 1 (-1))), .inl (0, 128, .inl (fun _ => 0)), .inl (0, 128, .inl (fun _ => 0)), .inl (0, (2 * 128), .inl sl2)] rfl ?_
  refine aw_iastN (i := 0) rfl rfl (by decide) ?_
  refine aw_go 0 93 [some (.ref 0)] [] [.inr (3, [.ref 1, .ref 2, .ref 3, .ref 4, .ref 5, .ref 6, .int (nI 2), .int 0]), .inl (1, 128, .inr (.inl (vp_updL (vp_updL (fun _ => 0) 0 (lN (4 * sy_nil + 1))) 1 (lN (4 * sy_quote + 1))))), .inl (0, 128, .inl (upd (upd (fun _ => 0) 0 0) 1 0)), .inl (0, 128, .inl (upd (upd (upd (fun _ => 0) 0 (-1)) 1 (-1)) 0 0)), .inl (0, 128, .inl (fun _ => 0)), .inl (0, 128, .inl (fun _ => 0)), .inl (0, (2 * 128), .inl sl2)] rfl ?_
  exact aw_vret rfl rfl ⟨rfl, _, _, _, sl2, fun i => if i = 0 then tr_nil else tr_quote, si_ok htb2, rfl⟩ rfl (Nat.le_of_ble_eq_true rfl) (Nat.le_of_ble_eq_true rfl) -- [] [.inr (3, [.ref 1, .ref 2, .ref 3, .ref 4, .ref 5, .ref 6, .int (nI 2), .int 0]), .inl (1, 128, .inr (.inl (vp_updL (vp_updL (fun _ => 0) 0 (lN (4 * sy_nil + 1))) 1 (lN (4 * sy_quote + 1))))), .inl (0, 128, .inl (upd (upd (fun _ => 0) 0 0) 1 0)), .inl (0, 128, .inl (upd (upd (upd (fun _ => 0) 0 (-1)) 1 (-1)) 0 0)), .inl (0, 128, .inl (fun _ => 0)), .inl (0, 128, .inl (fun _ => 0)), .inl (0, (2 * 128), .inl sl2)]
set_option maxHeartbeats 2000000 in
set_option maxRecDepth 100000 in
theorem c_Tx_init (l : Launch)  : Con l y_Tx_init M_Tx_init 1 20 [.ref 0] [.inr (5, [.null, .null, .int 0])] 1 2 2 3005 (fun r h' => r = none ∧ h' = txH (fun _ => 0) (fun _ => 0) 0) := by
  refine Con.ent ok_Tx_init (by decide +kernel) rfl ?_
  intro pA eA sA mA argsA belowA methA cA GA μA
  refine aw_go 1 1 [some (.ref 0)] [.ref 0] [.inr (5, [.null, .null, .int 0])] rfl ?_
  refine aw_obj rfl (by decide +kernel) (Nat.le_of_ble_eq_true rfl) (Nat.le_of_ble_eq_true rfl) (Nat.le_of_ble_eq_true rfl) ?_
  refine aw_go 2 8 [some (.ref 0)] [.int 3000, .ref 0] [.inr (5, [.null, .null, .int 0])] rfl ?_
  refine aw_newa (N := 3000) 2 rfl (by decide) rfl (by decide) (by decide) (by decide) (Nat.le_of_ble_eq_true rfl) (Nat.le_of_ble_eq_true rfl) (Nat.le_of_ble_eq_true rfl) ?_
  refine aw_go 3 15 [some (.ref 0)] [.int 5, .ref 0] [.inr (5, [.ref 1, .null, .int 0]), .inl (2, 3000, .inl (fun _ => 0))] rfl ?_
  refine aw_newa (N := 5) 0 rfl (by decide) rfl (by decide) (by decide) (by decide) (Nat.le_of_ble_eq_true rfl) (Nat.le_of_ble_eq_true rfl) (Nat.le_of_ble_eq_true rfl) ?_
  refine aw_go 1 20 [some (.ref 0)] [] [.inr (5, [.ref 1, .ref 2, .int 0]), .inl (2, 3000, .inl (fun _ => 0)), .inl (0, 5, .inl (fun _ => 0))] rfl ?_
  exact aw_vret rfl rfl ⟨rfl, rfl⟩ rfl (Nat.le_of_ble_eq_true rfl) (Nat.le_of_ble_eq_true rfl) -- [] [.inr (5, [.ref 1, .ref 2, .int 0]), .inl (2, 3000, .inl (fun _ => 0)), .inl (0, 5, .inl (fun _ => 0))]
set_option maxHeartbeats 2000000 in
set_option maxRecDepth 100000 in
theorem c_Wd_init (l : Launch) (len : Int32) (f wa : Nat → Int32) : Con l y_Wd_init M_Wd_init 1 20 [.ref 0, .ref 1] [.inr (6, [.null, .int 0, .int 0, .int 0, .long 0]), .inr (5, [.ref 2, .ref 3, .int len]), .inl (2, 3000, .inl f), .inl (0, 5, .inl wa)] 4 0 0 0 (fun r h' => r = none ∧ h' = [.inr (6, [.ref 1, .int 0, .int 0, .int 0, .long 0]), .inr (5, [.ref 2, .ref 3, .int len]), .inl (2, 3000, .inl f), .inl (0, 5, .inl wa)]) := by
  refine Con.ent ok_Wd_init (by decide +kernel) rfl ?_
  intro pA eA sA mA argsA belowA methA cA GA μA
  refine aw_go 1 1 [some (.ref 0), some (.ref 1)] [.ref 0] [.inr (6, [.null, .int 0, .int 0, .int 0, .long 0]), .inr (5, [.ref 2, .ref 3, .int len]), .inl (2, 3000, .inl f), .inl (0, 5, .inl wa)] rfl ?_
  refine aw_obj rfl (by decide +kernel) (Nat.le_of_ble_eq_true rfl) (Nat.le_of_ble_eq_true rfl) (Nat.le_of_ble_eq_true rfl) ?_
  refine aw_go 3 9 [some (.ref 0), some (.ref 1)] [] [.inr (6, [.ref 1, .int 0, .int 0, .int 0, .long 0]), .inr (5, [.ref 2, .ref 3, .int len]), .inl (2, 3000, .inl f), .inl (0, 5, .inl wa)] rfl ?_
  exact aw_vret rfl rfl ⟨rfl, rfl⟩ rfl (Nat.le_refl _) (Nat.le_refl _) -- [] [.inr (6, [.ref 1, .int 0, .int 0, .int 0, .long 0]), .inr (5, [.ref 2, .ref 3, .int len]), .inl (2, 3000, .inl f), .inl (0, 5, .inl wa)]
set_option maxHeartbeats 2000000 in
set_option maxRecDepth 100000 in
theorem c_Te_init (l : Launch) (cap : Nat) (keys : Nat → Int64) (dp ln mk pt sl : Nat → Int32) (cnt mark : Int32) : Con l y_Te_init M_Te_init 1 20 [.ref 0, .ref 1] [.inr (4, [.null, .null, .int 0]), .inr (3, [.ref 2, .ref 3, .ref 4, .ref 5, .ref 6, .ref 7, .int cnt, .int mark]), .inl (1, cap, .inr (.inl keys)), .inl (0, cap, .inl dp), .inl (0, cap, .inl ln), .inl (0, cap, .inl mk), .inl (0, cap, .inl pt), .inl (0, (2 * cap), .inl sl)] 8 1 1 2000 (fun r h' => r = none ∧ h' = [.inr (4, [.ref 1, .ref 8, .int 0]), .inr (3, [.ref 2, .ref 3, .ref 4, .ref 5, .ref 6, .ref 7, .int cnt, .int mark]), .inl (1, cap, .inr (.inl keys)), .inl (0, cap, .inl dp), .inl (0, cap, .inl ln), .inl (0, cap, .inl mk), .inl (0, cap, .inl pt), .inl (0, (2 * cap), .inl sl), .inl (0, 2000, .inl (fun _ => 0))]) := by
  refine Con.ent ok_Te_init (by decide +kernel) rfl ?_
  intro pA eA sA mA argsA belowA methA cA GA μA
  refine aw_go 1 1 [some (.ref 0), some (.ref 1)] [.ref 0] [.inr (4, [.null, .null, .int 0]), .inr (3, [.ref 2, .ref 3, .ref 4, .ref 5, .ref 6, .ref 7, .int cnt, .int mark]), .inl (1, cap, .inr (.inl keys)), .inl (0, cap, .inl dp), .inl (0, cap, .inl ln), .inl (0, cap, .inl mk), .inl (0, cap, .inl pt), .inl (0, (2 * cap), .inl sl)] rfl ?_
  refine aw_obj rfl (by decide +kernel) (Nat.le_of_ble_eq_true rfl) (Nat.le_of_ble_eq_true rfl) (Nat.le_of_ble_eq_true rfl) ?_
  refine aw_go 5 13 [some (.ref 0), some (.ref 1)] [.int 2000, .ref 0] [.inr (4, [.ref 1, .null, .int 0]), .inr (3, [.ref 2, .ref 3, .ref 4, .ref 5, .ref 6, .ref 7, .int cnt, .int mark]), .inl (1, cap, .inr (.inl keys)), .inl (0, cap, .inl dp), .inl (0, cap, .inl ln), .inl (0, cap, .inl mk), .inl (0, cap, .inl pt), .inl (0, (2 * cap), .inl sl)] rfl ?_
  refine aw_newa (N := 2000) 0 rfl (by decide) rfl (by decide) (by decide) (by decide) (Nat.le_of_ble_eq_true rfl) (Nat.le_of_ble_eq_true rfl) (Nat.le_of_ble_eq_true rfl) ?_
  refine aw_go 1 18 [some (.ref 0), some (.ref 1)] [] [.inr (4, [.ref 1, .ref 8, .int 0]), .inr (3, [.ref 2, .ref 3, .ref 4, .ref 5, .ref 6, .ref 7, .int cnt, .int mark]), .inl (1, cap, .inr (.inl keys)), .inl (0, cap, .inl dp), .inl (0, cap, .inl ln), .inl (0, cap, .inl mk), .inl (0, cap, .inl pt), .inl (0, (2 * cap), .inl sl), .inl (0, 2000, .inl (fun _ => 0))] rfl ?_
  exact aw_vret rfl rfl ⟨rfl, rfl⟩ rfl (Nat.le_of_ble_eq_true rfl) (Nat.le_of_ble_eq_true rfl) -- [] [.inr (4, [.ref 1, .ref 8, .int 0]), .inr (3, [.ref 2, .ref 3, .ref 4, .ref 5, .ref 6, .ref 7, .int cnt, .int mark]), .inl (1, cap, .inr (.inl keys)), .inl (0, cap, .inl dp), .inl (0, cap, .inl ln), .inl (0, cap, .inl mk), .inl (0, cap, .inl pt), .inl (0, (2 * cap), .inl sl), .inl (0, 2000, .inl (fun _ => 0))]
set_option maxHeartbeats 2000000 in
set_option maxRecDepth 100000 in
theorem c_Sh_init (l : Launch) (most : Nat) (hm : most ≤ 2000) : Con l y_Sh_init M_Sh_init 1 21 [.ref 0, .int (nI most)] [.inr (2, [.null, .int 0])] 1 1 1 most (fun r h' => r = none ∧ h' = shH most 0 (fun _ => 0)) := by
  refine Con.ent ok_Sh_init (by decide +kernel) rfl ?_
  intro pA eA sA mA argsA belowA methA cA GA μA
  refine aw_go 1 1 [some (.ref 0), some (.int (nI most))] [.ref 0] [.inr (2, [.null, .int 0])] rfl ?_
  refine aw_obj rfl (by decide +kernel) (Nat.le_of_ble_eq_true rfl) (Nat.le_of_ble_eq_true rfl) (Nat.le_of_ble_eq_true rfl) ?_
  refine aw_go 3 7 [some (.ref 0), some (.int (nI most))] [.int (nI most), .int 0, .ref 0] [.inr (2, [.null, .int 0])] rfl ?_
  refine aw_max rfl (by decide +kernel) (Nat.le_of_ble_eq_true rfl) (Nat.le_of_ble_eq_true rfl) (Nat.le_of_ble_eq_true rfl) (Nat.le_of_ble_eq_true rfl) (by show _ ≤ most; omega) ?_
  rw [show (if (0 : Int32) < nI most then nI most else 0) = nI most from (by by_cases q : most = 0; rw [q]; rfl; exact if_pos (nI_lt (a := 0) (by omega) (by omega)))]
  refine aw_newa (N := most) 2 rfl (by decide) rfl (nI_pos (by omega)) (nI_clamp (by omega)) (by omega) (Nat.le_of_ble_eq_true rfl) (by show _ ≤ most; omega) (Nat.le_of_ble_eq_true rfl) ?_
  refine aw_go 1 15 [some (.ref 0), some (.int (nI most))] [] [.inr (2, [.ref 1, .int 0]), .inl (2, most, .inl (fun _ => 0))] rfl ?_
  exact aw_vret rfl rfl ⟨rfl, rfl⟩ rfl (Nat.le_of_ble_eq_true rfl) (by show _ ≤ most; omega) -- [] [.inr (2, [.ref 1, .int 0]), .inl (2, most, .inl (fun _ => 0))]
set_option maxHeartbeats 2000000 in
set_option maxRecDepth 100000 in
theorem c_Rd_init (l : Launch) (len : Int32) (f wa : Nat → Int32) (cap : Nat) (keys : Nat → Int64) (dp ln mk pt sl : Nat → Int32) (cnt mark : Int32) : Con l y_Rd_init M_Rd_init 2 41 [.ref 0, .ref 1, .ref 4] [.inr (1, [.null, .null, .null, .null, .null, .null, .int 0, .int 0, .int 0, .int 0, .int 0]), .inr (5, [.ref 2, .ref 3, .int len]), .inl (2, 3000, .inl f), .inl (0, 5, .inl wa), .inr (3, [.ref 5, .ref 6, .ref 7, .ref 8, .ref 9, .ref 10, .int cnt, .int mark]), .inl (1, cap, .inr (.inl keys)), .inl (0, cap, .inl dp), .inl (0, cap, .inl ln), .inl (0, cap, .inl mk), .inl (0, cap, .inl pt), .inl (0, (2 * cap), .inl sl)] 11 4 4 1087 (fun r h' => r = none ∧ h' = [.inr (1, [.ref 1, .ref 4, .ref 11, .ref 12, .ref 13, .ref 14, .int 0, .int 0, .int 0, .int 0, .int (-1)]), .inr (5, [.ref 2, .ref 3, .int len]), .inl (2, 3000, .inl f), .inl (0, 5, .inl wa), .inr (3, [.ref 5, .ref 6, .ref 7, .ref 8, .ref 9, .ref 10, .int cnt, .int mark]), .inl (1, cap, .inr (.inl keys)), .inl (0, cap, .inl dp), .inl (0, cap, .inl ln), .inl (0, cap, .inl mk), .inl (0, cap, .inl pt), .inl (0, (2 * cap), .inl sl), .inr (6, [.ref 1, .int 0, .int 0, .int 0, .long 0]), .inl (0, 41, .inl (fun _ => 0)), .inl (0, 41, .inl (fun _ => 0)), .inl (0, 1000, .inl (fun _ => 0))]) := by
  refine Con.ent ok_Rd_init (by decide +kernel) rfl ?_
  intro pA eA sA mA argsA belowA methA cA GA μA
  refine aw_go 1 1 [some (.ref 0), some (.ref 1), some (.ref 4)] [.ref 0] [.inr (1, [.null, .null, .null, .null, .null, .null, .int 0, .int 0, .int 0, .int 0, .int 0]), .inr (5, [.ref 2, .ref 3, .int len]), .inl (2, 3000, .inl f), .inl (0, 5, .inl wa), .inr (3, [.ref 5, .ref 6, .ref 7, .ref 8, .ref 9, .ref 10, .int cnt, .int mark]), .inl (1, cap, .inr (.inl keys)), .inl (0, cap, .inl dp), .inl (0, cap, .inl ln), .inl (0, cap, .inl mk), .inl (0, cap, .inl pt), .inl (0, (2 * cap), .inl sl)] rfl ?_
  refine aw_obj rfl (by decide +kernel) (Nat.le_of_ble_eq_true rfl) (Nat.le_of_ble_eq_true rfl) (Nat.le_of_ble_eq_true rfl) ?_
  refine aw_go 7 15 [some (.ref 0), some (.ref 1), some (.ref 4)] [.ref 0] [.inr (1, [.ref 1, .ref 4, .null, .null, .null, .null, .int 0, .int 0, .int 0, .int 0, .int 0]), .inr (5, [.ref 2, .ref 3, .int len]), .inl (2, 3000, .inl f), .inl (0, 5, .inl wa), .inr (3, [.ref 5, .ref 6, .ref 7, .ref 8, .ref 9, .ref 10, .int cnt, .int mark]), .inl (1, cap, .inr (.inl keys)), .inl (0, cap, .inl dp), .inl (0, cap, .inl ln), .inl (0, cap, .inl mk), .inl (0, cap, .inl pt), .inl (0, (2 * cap), .inl sl)] rfl ?_
  refine aw_new 6 [.null, .int 0, .int 0, .int 0, .long 0] rfl (by decide +kernel) (Nat.le_of_ble_eq_true rfl) (Nat.le_of_ble_eq_true rfl) (Nat.le_of_ble_eq_true rfl) ?_
  refine aw_go 2 20 [some (.ref 0), some (.ref 1), some (.ref 4)] [.ref 1, .ref 11, .ref 11, .ref 0] [.inr (1, [.ref 1, .ref 4, .null, .null, .null, .null, .int 0, .int 0, .int 0, .int 0, .int 0]), .inr (5, [.ref 2, .ref 3, .int len]), .inl (2, 3000, .inl f), .inl (0, 5, .inl wa), .inr (3, [.ref 5, .ref 6, .ref 7, .ref 8, .ref 9, .ref 10, .int cnt, .int mark]), .inl (1, cap, .inr (.inl keys)), .inl (0, cap, .inl dp), .inl (0, cap, .inl ln), .inl (0, cap, .inl mk), .inl (0, cap, .inl pt), .inl (0, (2 * cap), .inl sl), .inr (6, [.null, .int 0, .int 0, .int 0, .long 0])] rfl ?_
  refine aw_cI [11, 1, 2, 3] (c_Wd_init l len f wa) rfl cw_Rd_21 rfl rfl rfl rfl (Nat.le_of_ble_eq_true rfl) (Nat.le_of_ble_eq_true rfl) (fun r h' hp => ?_)
  obtain ⟨rfl, rfl⟩ := hp
  refine aw_go 3 29 [some (.ref 0), some (.ref 1), some (.ref 4)] [.int 41, .ref 0] [.inr (1, [.ref 1, .ref 4, .ref 11, .null, .null, .null, .int 0, .int 0, .int 0, .int 0, .int 0]), .inr (5, [.ref 2, .ref 3, .int len]), .inl (2, 3000, .inl f), .inl (0, 5, .inl wa), .inr (3, [.ref 5, .ref 6, .ref 7, .ref 8, .ref 9, .ref 10, .int cnt, .int mark]), .inl (1, cap, .inr (.inl keys)), .inl (0, cap, .inl dp), .inl (0, cap, .inl ln), .inl (0, cap, .inl mk), .inl (0, cap, .inl pt), .inl (0, (2 * cap), .inl sl), .inr (6, [.ref 1, .int 0, .int 0, .int 0, .long 0])] rfl ?_
  refine aw_newa (N := 41) 0 rfl (by decide) rfl (by decide) (by decide) (by decide) (Nat.le_of_ble_eq_true rfl) (Nat.le_of_ble_eq_true rfl) (Nat.le_of_ble_eq_true rfl) ?_
  refine aw_go 3 37 [some (.ref 0), some (.ref 1), some (.ref 4)] [.int 41, .ref 0] [.inr (1, [.ref 1, .ref 4, .ref 11, .ref 12, .null, .null, .int 0, .int 0, .int 0, .int 0, .int 0]), .inr (5, [.ref 2, .ref 3, .int len]), .inl (2, 3000, .inl f), .inl (0, 5, .inl wa), .inr (3, [.ref 5, .ref 6, .ref 7, .ref 8, .ref 9, .ref 10, .int cnt, .int mark]), .inl (1, cap, .inr (.inl keys)), .inl (0, cap, .inl dp), .inl (0, cap, .inl ln), .inl (0, cap, .inl mk), .inl (0, cap, .inl pt), .inl (0, (2 * cap), .inl sl), .inr (6, [.ref 1, .int 0, .int 0, .int 0, .long 0]), .inl (0, 41, .inl (fun _ => 0))] rfl ?_
  refine aw_newa (N := 41) 0 rfl (by decide) rfl (by decide) (by decide) (by decide) (Nat.le_of_ble_eq_true rfl) (Nat.le_of_ble_eq_true rfl) (Nat.le_of_ble_eq_true rfl) ?_
  refine aw_go 3 46 [some (.ref 0), some (.ref 1), some (.ref 4)] [.int 1000, .ref 0] [.inr (1, [.ref 1, .ref 4, .ref 11, .ref 12, .ref 13, .null, .int 0, .int 0, .int 0, .int 0, .int 0]), .inr (5, [.ref 2, .ref 3, .int len]), .inl (2, 3000, .inl f), .inl (0, 5, .inl wa), .inr (3, [.ref 5, .ref 6, .ref 7, .ref 8, .ref 9, .ref 10, .int cnt, .int mark]), .inl (1, cap, .inr (.inl keys)), .inl (0, cap, .inl dp), .inl (0, cap, .inl ln), .inl (0, cap, .inl mk), .inl (0, cap, .inl pt), .inl (0, (2 * cap), .inl sl), .inr (6, [.ref 1, .int 0, .int 0, .int 0, .long 0]), .inl (0, 41, .inl (fun _ => 0)), .inl (0, 41, .inl (fun _ => 0))] rfl ?_
  refine aw_newa (N := 1000) 0 rfl (by decide) rfl (by decide) (by decide) (by decide) (Nat.le_of_ble_eq_true rfl) (Nat.le_of_ble_eq_true rfl) (Nat.le_of_ble_eq_true rfl) ?_
  refine aw_go 10 66 [some (.ref 0), some (.ref 1), some (.ref 4)] [] [.inr (1, [.ref 1, .ref 4, .ref 11, .ref 12, .ref 13, .ref 14, .int 0, .int 0, .int 0, .int 0, .int (-1)]), .inr (5, [.ref 2, .ref 3, .int len]), .inl (2, 3000, .inl f), .inl (0, 5, .inl wa), .inr (3, [.ref 5, .ref 6, .ref 7, .ref 8, .ref 9, .ref 10, .int cnt, .int mark]), .inl (1, cap, .inr (.inl keys)), .inl (0, cap, .inl dp), .inl (0, cap, .inl ln), .inl (0, cap, .inl mk), .inl (0, cap, .inl pt), .inl (0, (2 * cap), .inl sl), .inr (6, [.ref 1, .int 0, .int 0, .int 0, .long 0]), .inl (0, 41, .inl (fun _ => 0)), .inl (0, 41, .inl (fun _ => 0)), .inl (0, 1000, .inl (fun _ => 0))] rfl ?_
  exact aw_vret rfl rfl ⟨rfl, rfl⟩ rfl (Nat.le_of_ble_eq_true rfl) (Nat.le_of_ble_eq_true rfl) -- [] [.inr (1, [.ref 1, .ref 4, .ref 11, .ref 12, .ref 13, .ref 14, .int 0, .int 0, .int 0, .int 0, .int (-1)]), .inr (5, [.ref 2, .ref 3, .int len]), .inl (2, 3000, .inl f), .inl (0, 5, .inl wa), .inr (3, [.ref 5, .ref 6, .ref 7, .ref 8, .ref 9, .ref 10, .int cnt, .int mark]), .inl (1, cap, .inr (.inl keys)), .inl (0, cap, .inl dp), .inl (0, cap, .inl ln), .inl (0, cap, .inl mk), .inl (0, cap, .inl pt), .inl (0, (2 * cap), .inl sl), .inr (6, [.ref 1, .int 0, .int 0, .int 0, .long 0]), .inl (0, 41, .inl (fun _ => 0)), .inl (0, 41, .inl (fun _ => 0)), .inl (0, 1000, .inl (fun _ => 0))]
