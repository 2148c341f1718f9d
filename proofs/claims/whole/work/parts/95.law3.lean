/-! the law: the loop, the whole -/
theorem la_go {L0 cc : Nat} (hL : L0 ≤ 3072) (hc : cc ≤ 512) (h : ¬ nI L0 - 6 < nI (6 * cc)) : 6 * cc + 6 ≤ L0 := by
  rcases Nat.lt_or_ge L0 6 with z | z
  · exfalso
    apply h
    have h1 : nI L0 - 6 < 0 := by
      rcases (show L0 = 0 ∨ L0 = 1 ∨ L0 = 2 ∨ L0 = 3 ∨ L0 = 4 ∨ L0 = 5 by omega) with rfl | rfl | rfl | rfl | rfl | rfl <;> decide
    have h2 : 0 ≤ nI (6 * cc) := nI_0le (by omega)
    rw [Int32.lt_iff_toInt_lt] at h1 ⊢
    rw [Int32.le_iff_toInt_le] at h2
    omega
  · rw [show nI L0 - 6 = nI (L0 - 6) from pk_sub (a := L0) (b := 6) z] at h
    have := ngt_n (c := 6 * cc) (k := L0 - 6) (by omega) (by omega) h
    omega
set_option maxHeartbeats 8000000 in
set_option maxRecDepth 100000 in
theorem la_all {p : Program} {l : Launch} {e : Env} {s : State} {m : MethodId} {below : List Frame} {meth : Method} {c : Code} {b : Nat} {G : am_G} {μ0 : Nat → Nat} {L0 : Nat} {xs : Nat → Int32} (hX : la_X s μ0 L0 xs) : LAW p l e s m below meth c b G μ0 0 0 0 [some (.ref 5000000), none, none, none] [] [] := by
  have hL3 := hX.2.2
  refine aw_new 0 [.null, .null, .null, .null, .null, .null, .null, .null] rfl (by decide +kernel) (Nat.le_of_ble_eq_true rfl) (Nat.le_of_ble_eq_true rfl) (Nat.le_of_ble_eq_true rfl) ?_
  refine aw_go 1 4 [some (.ref 5000000), none, none, none] [.ref 0, .ref 0] [.inr (0, [.null, .null, .null, .null, .null, .null, .null, .null])] rfl ?_
  refine aw_cI [0] (c_X_init l) rfl cw_La_9 rfl rfl rfl rfl (Nat.le_of_ble_eq_true rfl) (Nat.le_of_ble_eq_true rfl) (fun r h' hp => ?_)
  obtain ⟨rfl, hX1⟩ := hp
  obtain ⟨lev1, hel1, res1, sta1, bas1, obj1, nx1, sa1, kn1, vu1, f1, wa1, keys1, dp1, ln1, mk1, pt1, sl1, top1, trs1, ouf1, en1, ef1, gn1, gf1, pl1, no1, e1, t1, rfl, hx1⟩ := hX1
  refine aw_go 1 8 [some (.ref 5000000), some (.ref 0), none, none] [] (xH lev1 hel1 res1 0 (-1) sta1 bas1 obj1 nx1 sa1 kn1 vu1 f1 wa1 (nI 0) 128 keys1 dp1 ln1 mk1 pt1 sl1 (nI 2) (nI 0) top1 trs1 (nI no1) ouf1 en1 ef1 gn1 gf1 pl1) rfl ?_
  refine aw_new 7 [.null, .null, .null, .null, .null, .null, .null, .int 0, .null, .null, .int 0, .null, .null, .null, .int 0, .null, .int 0, .null, .int 0, .null, .int 0, .null, .int 0, .int 0, .int 0, .int 0, .null, .null, .null, .null, .int 0, .null, .int 0, .int 0, .int 0, .null, .null, .int 0, .null] rfl (by decide +kernel) (Nat.le_of_ble_eq_true rfl) (Nat.le_of_ble_eq_true rfl) (Nat.le_of_ble_eq_true rfl) ?_
  refine aw_go 1 12 [some (.ref 5000000), some (.ref 0), none, none] [.ref 25, .ref 25] [.inr (0, [.ref 9, .ref 3, .ref 1, .ref 16, .ref 18, .ref 20, .ref 22, .ref 24]), .inr (1, [.ref 3, .ref 9, .ref 2, .ref 6, .ref 7, .ref 8, .int lev1, .int hel1, .int res1, .int 0, .int (-1)]), .inr (6, [.ref 3, .int nx1, .int sa1, .int kn1, .long vu1]), .inr (5, [.ref 4, .ref 5, .int (nI 0)]), .inl (2, 3000, .inl f1), .inl (0, 5, .inl wa1), .inl (0, 41, .inl sta1), .inl (0, 41, .inl bas1), .inl (0, 1000, .inl obj1), .inr (3, [.ref 10, .ref 11, .ref 12, .ref 13, .ref 14, .ref 15, .int (nI 2), .int (nI 0)]), .inl (1, 128, .inr (.inl keys1)), .inl (0, 128, .inl dp1), .inl (0, 128, .inl ln1), .inl (0, 128, .inl mk1), .inl (0, 128, .inl pt1), .inl (0, (2 * 128), .inl sl1), .inr (4, [.ref 9, .ref 17, .int top1]), .inl (0, 2000, .inl trs1), .inr (2, [.ref 19, .int (nI no1)]), .inl (2, 2000, .inl ouf1), .inr (2, [.ref 21, .int en1]), .inl (2, 200, .inl ef1), .inr (2, [.ref 23, .int gn1]), .inl (2, 200, .inl gf1), .inl (0, 8, .inl pl1), .inr (7, [.null, .null, .null, .null, .null, .null, .null, .int 0, .null, .null, .int 0, .null, .null, .null, .int 0, .null, .int 0, .null, .int 0, .null, .int 0, .null, .int 0, .int 0, .int 0, .int 0, .null, .null, .null, .null, .int 0, .null, .int 0, .int 0, .int 0, .null, .null, .int 0, .null])] rfl ?_
  refine aw_cI [25] (c_Mo_init l) rfl cw_La_12 rfl rfl rfl rfl (Nat.le_of_ble_eq_true rfl) (Nat.le_of_ble_eq_true rfl) (fun r h' hp => ?_)
  obtain ⟨rfl, mns1, hns1, hM1⟩ := hp
  obtain ⟨m_lf1, m_rt1, m_nx1, m_sz1, m_hg1, m_nu1, m_hd1, m_nm1, m_le1, m_pl1, m_wa1, m_tx1, m_ou1, m_wd1, m_ws1, m_tw1, m_tg1, m_o11, m_s11, m_atp1, m_pS1, m_pF1, m_pT1, m_pL1, m_op1, m_it1, m_isz1, m_wh1, m_dn1, m_wk1, m_me1, m_ot1, mno1, mt1, rfl, hm1⟩ := hM1
  refine aw_go 3 18 [some (.ref 5000000), some (.ref 0), some (.ref 25), some (.int 0)] [] (laH lev1 hel1 res1 0 (-1) sta1 bas1 obj1 nx1 sa1 kn1 vu1 f1 wa1 (nI 0) 128 keys1 dp1 ln1 mk1 pt1 sl1 (nI 2) (nI 0) top1 trs1 (nI no1) ouf1 en1 ef1 gn1 gf1 pl1 m_lf1 m_rt1 m_nx1 m_sz1 m_hg1 m_nu1 m_hd1 (nI 2) m_nm1 m_le1 (nI mns1) m_pl1 m_wa1 m_tx1 (nI 0) m_ou1 (nI mno1) m_wd1 m_ws1 m_tw1 m_tg1 m_o11 m_s11 m_atp1 0 (-1) m_pS1 m_pF1 m_pT1 m_pL1 m_op1 m_it1 m_isz1 m_wh1 m_dn1 m_wk1 m_me1 0 m_ot1) rfl ?_
  refine aw_go 0 18 [some (.ref 5000000), some (.ref 0), some (.ref 25), some (.int (nI (6 * 0)))] [] (laH lev1 hel1 res1 0 (-1) sta1 bas1 obj1 nx1 sa1 kn1 vu1 f1 wa1 (nI 0) 128 keys1 dp1 ln1 mk1 pt1 sl1 (nI 2) (nI 0) top1 trs1 (nI no1) ouf1 en1 ef1 gn1 gf1 pl1 m_lf1 m_rt1 m_nx1 m_sz1 m_hg1 m_nu1 m_hd1 (nI 2) m_nm1 m_le1 (nI mns1) m_pl1 m_wa1 m_tx1 (nI 0) m_ou1 (nI mno1) m_wd1 m_ws1 m_tw1 m_tg1 m_o11 m_s11 m_atp1 0 (-1) m_pS1 m_pF1 m_pT1 m_pL1 m_op1 m_it1 m_isz1 m_wh1 m_dn1 m_wk1 m_me1 0 m_ot1) rfl ?_
  refine aw_widen (k2 := 50 + 128) (n2 := 250000 + 14 * 128) (Nat.le_of_ble_eq_true rfl) (Nat.le_of_ble_eq_true rfl) ?_
  refine aw_loop2 (σ := Nat × Nat × am_H) (fun y => la_I y.1 y.2.1 y.2.2 ∧ y.1 ≤ 512) (fun y => 600 - y.1) (fun y => 50 + y.2.1) (fun y => 250000 + 14 * y.2.1) (fun y => [some (.ref 5000000), some (.ref 0), some (.ref 25), some (.int (nI (6 * y.1)))]) (fun y => y.2.2) ?_ (0, 128, laH lev1 hel1 res1 0 (-1) sta1 bas1 obj1 nx1 sa1 kn1 vu1 f1 wa1 (nI 0) 128 keys1 dp1 ln1 mk1 pt1 sl1 (nI 2) (nI 0) top1 trs1 (nI no1) ouf1 en1 ef1 gn1 gf1 pl1 m_lf1 m_rt1 m_nx1 m_sz1 m_hg1 m_nu1 m_hd1 (nI 2) m_nm1 m_le1 (nI mns1) m_pl1 m_wa1 m_tx1 (nI 0) m_ou1 (nI mno1) m_wd1 m_ws1 m_tw1 m_tg1 m_o11 m_s11 m_atp1 0 (-1) m_pS1 m_pF1 m_pT1 m_pL1 m_op1 m_it1 m_isz1 m_wh1 m_dn1 m_wk1 m_me1 0 m_ot1) ⟨⟨2, 0, 2, mns1, _, 0, _, _, _, _, _, _, _, x_mk hx1, m_mk hm1, ⟨by show 2 + 2 * 0 + 20 * wz _ ≤ _; rw [wz_0]; omega, by show 2 + 2 * 0 + 20 * wz _ ≤ _; rw [wz_0]; omega, by show 2 * mns1 + 0 + 10 * wz _ ≤ _; rw [wz_0]; omega, Nat.le_refl _⟩, rfl⟩, Nat.zero_le _⟩
  rintro ⟨cc, cap, hh⟩ ⟨⟨n, Q, mn, mns, T, L, w, P, F, FP, O, hXh, hMh, hX0, hM0, hB, e9⟩, hc⟩ ih
  dsimp only at hX0 hB e9 hc ih ⊢
  obtain ⟨lev, hel, res, sta, bas, obj, nx, sa, kn, vu, f, wa, keys, dp, ln, mk, pt, sl, top, trs, ouf, en, ef, gn, gf, pl, no, e0, t, rfl, hx⟩ := hX0
  obtain ⟨m_lf, m_rt, m_nx, m_sz, m_hg, m_nu, m_hd, m_nm, m_le, m_pl, m_wa, m_tx, m_ou, m_wd, m_ws, m_tw, m_tg, m_o1, m_s1, m_atp, m_pS, m_pF, m_pT, m_pL, m_op, m_it, m_isz, m_wh, m_dn, m_wk, m_me, m_ot, mno, mt, rfl, hm⟩ := hM0
  subst e9
  have hcap := hx.1.1.cap
  refine aw_go 0 18 [some (.ref 5000000), some (.ref 0), some (.ref 25), some (.int (nI (6 * cc)))] [] (laH lev hel res F FP sta bas obj nx sa kn vu f wa (nI L) cap keys dp ln mk pt sl (nI n) (nI Q) top trs (nI no) ouf en ef gn gf pl m_lf m_rt m_nx m_sz m_hg m_nu m_hd (nI mn) m_nm m_le (nI mns) m_pl m_wa m_tx (nI L) m_ou (nI mno) m_wd m_ws m_tw m_tg m_o1 m_s1 m_atp F FP m_pS m_pF m_pT m_pL m_op m_it m_isz m_wh m_dn m_wk m_me 0 m_ot) rfl ?_
  refine aw_go 2 20 [some (.ref 5000000), some (.ref 0), some (.ref 25), some (.int (nI (6 * cc)))] [.ref 5000000, .int (nI (6 * cc))] (laH lev hel res F FP sta bas obj nx sa kn vu f wa (nI L) cap keys dp ln mk pt sl (nI n) (nI Q) top trs (nI no) ouf en ef gn gf pl m_lf m_rt m_nx m_sz m_hg m_nu m_hd (nI mn) m_nm m_le (nI mns) m_pl m_wa m_tx (nI L) m_ou (nI mno) m_wd m_ws m_tw m_tg m_o1 m_s1 m_atp F FP m_pS m_pF m_pT m_pL m_op m_it m_isz m_wh m_dn m_wk m_me 0 m_ot) rfl ?_
  refine aw_xlen hX rfl ?_
  refine aw_go 2 24 [some (.ref 5000000), some (.ref 0), some (.ref 25), some (.int (nI (6 * cc)))] [.int ((nI L0) - 6), .int (nI (6 * cc))] (laH lev hel res F FP sta bas obj nx sa kn vu f wa (nI L) cap keys dp ln mk pt sl (nI n) (nI Q) top trs (nI no) ouf en ef gn gf pl m_lf m_rt m_nx m_sz m_hg m_nu m_hd (nI mn) m_nm m_le (nI mns) m_pl m_wa m_tx (nI L) m_ou (nI mno) m_wd m_ws m_tw m_tg m_o1 m_s1 m_atp F FP m_pS m_pF m_pT m_pL m_op m_it m_isz m_wh m_dn m_wk m_me 0 m_ot) rfl ?_
  refine aw_cmp_gt rfl (fun h24 => ?_) (fun h24 => ?_)
  · refine aw_go 1 555 [some (.ref 5000000), some (.ref 0), some (.ref 25), some (.int (nI (6 * cc)))] [.int 1] (laH lev hel res F FP sta bas obj nx sa kn vu f wa (nI L) cap keys dp ln mk pt sl (nI n) (nI Q) top trs (nI no) ouf en ef gn gf pl m_lf m_rt m_nx m_sz m_hg m_nu m_hd (nI mn) m_nm m_le (nI mns) m_pl m_wa m_tx (nI L) m_ou (nI mno) m_wd m_ws m_tw m_tg m_o1 m_s1 m_atp F FP m_pS m_pF m_pT m_pL m_op m_it m_isz m_wh m_dn m_wk m_me 0 m_ot) rfl ?_
    exact aw_xret (by omega) (by omega) rfl
  · have hi : 6 * cc + 6 ≤ L0 := la_go hL3 hc h24
    have K : ∀ cap2 h2, la_I (cc + 1) cap2 h2 → LAW p l e s m below meth c b G μ0 (50 + cap2) (250000 + 14 * cap2) 548 [some (.ref 5000000), some (.ref 0), some (.ref 25), some (.int (nI (6 * cc)))] [] h2 := by
      intro cap2 h2 hI2
      refine aw_go 2 18 [some (.ref 5000000), some (.ref 0), some (.ref 25), some (.int (nI (6 * cc) + 6))] [] h2 rfl ?_
      exact aw_eq (by rw [show nI (6 * cc) + 6 = nI (6 * (cc + 1)) from nI_add (6 * cc) 6]) rfl rfl (ih (cc + 1, cap2, h2) ⟨hI2, by show cc + 1 ≤ 512; omega⟩ (by show 600 - (cc + 1) < 600 - cc; omega))
    refine aw_go 2 29 [some (.ref 5000000), some (.ref 0), some (.ref 25), some (.int (nI (6 * cc)))] [.int (nI (6 * cc)), .ref 5000000] (laH lev hel res F FP sta bas obj nx sa kn vu f wa (nI L) cap keys dp ln mk pt sl (nI n) (nI Q) top trs (nI no) ouf en ef gn gf pl m_lf m_rt m_nx m_sz m_hg m_nu m_hd (nI mn) m_nm m_le (nI mns) m_pl m_wa m_tx (nI L) m_ou (nI mno) m_wd m_ws m_tw m_tg m_o1 m_s1 m_atp F FP m_pS m_pF m_pT m_pL m_op m_it m_isz m_wh m_dn m_wk m_me 0 m_ot) rfl ?_
    refine aw_xald hX (by omega) rfl ?_
    refine aw_go 2 33 [some (.ref 5000000), some (.ref 0), some (.ref 25), some (.int (nI (6 * cc)))] [.int ((xs (6 * cc)) &&& 15)] (laH lev hel res F FP sta bas obj nx sa kn vu f wa (nI L) cap keys dp ln mk pt sl (nI n) (nI Q) top trs (nI no) ouf en ef gn gf pl m_lf m_rt m_nx m_sz m_hg m_nu m_hd (nI mn) m_nm m_le (nI mns) m_pl m_wa m_tx (nI L) m_ou (nI mno) m_wd m_ws m_tw m_tg m_o1 m_s1 m_atp F FP m_pS m_pF m_pT m_pL m_op m_it m_isz m_wh m_dn m_wk m_me 0 m_ot) rfl ?_
    by_cases hz33_0 : (xs (6 * cc)) &&& 15 = 0
    · refine aw_tabK 0 67 100 hz33_0 rfl (by decide) ?_
      exact la_feed hX hi hx hm hB _ _ _ _ _ rfl rfl rfl rfl rfl K
    by_cases hz33_1 : (xs (6 * cc)) &&& 15 = 1
    · refine aw_tabK 1 128 161 hz33_1 rfl (by decide) ?_
      by_cases hq : ∃ q, q ≤ 20 ∧ L + q ≤ 3000 ∧ xs (6 * cc + 1) = nI q
      · obtain ⟨q, q1, q2, q3⟩ := hq
        exact la_end_y hX hi hx hm hB q ⟨q1, q2⟩ q3 K
      · exact la_end_n hX hi hx hm hB _ hq rfl K
    by_cases hz33_2 : (xs (6 * cc)) &&& 15 = 2
    · refine aw_tabK 2 151 184 hz33_2 rfl (by decide) ?_
      by_cases hp : isP (xs (6 * cc + 1))
      · obtain ⟨j, hj, e1⟩ := hp
        exact la_read_y hX hi hx hm hB j hj e1 K
      · exact la_read_n hX hi hx hm hB _ hp rfl K
    by_cases hz33_3 : (xs (6 * cc)) &&& 15 = 3
    · refine aw_tabK 3 174 207 hz33_3 rfl (by decide) ?_
      by_cases h0 : (xs (6 * cc + 1)) = 0
      · exact la_fault_0 hX hi hx hm hB h0 K
      by_cases h1 : (xs (6 * cc + 1)) = 1
      · exact la_fault_1 hX hi hx hm hB h1 K
      exact la_fault_n hX hi hx hm hB _ h0 h1 rfl K
    by_cases hz33_4 : (xs (6 * cc)) &&& 15 = 4
    · refine aw_tabK 4 197 230 hz33_4 rfl (by decide) ?_
      by_cases hp : isP (xs (6 * cc + 1))
      · obtain ⟨j, hj, e1⟩ := hp
        exact la_tell_y hX hi hx hm hB j hj e1 K
      · exact la_tell_n hX hi hx hm hB _ hp rfl K
    by_cases hz33_5 : (xs (6 * cc)) &&& 15 = 5
    · refine aw_tabK 5 220 253 hz33_5 rfl (by decide) ?_
      exact la_letter hX hi hx hm hB _ rfl K
    by_cases hz33_6 : (xs (6 * cc)) &&& 15 = 6
    · refine aw_tabK 6 243 276 hz33_6 rfl (by decide) ?_
      by_cases hp : isP (xs (6 * cc + 1)) ∧ isP (xs (6 * cc + 2)) ∧ isP (xs (6 * cc + 3))
      · obtain ⟨⟨j, hj, e1⟩, ⟨k, hk, e2⟩, ⟨i3, hi3, e3⟩⟩ := hp
        exact la_cons_y hX hi hx hm hB j k i3 hj hk hi3 e1 e2 e3 K
      · exact la_cons_n hX hi hx hm hB _ _ _ hp rfl rfl rfl K
    by_cases hz33_7 : (xs (6 * cc)) &&& 15 = 7
    · refine aw_tabK 7 286 319 hz33_7 rfl (by decide) ?_
      by_cases hp : isP (xs (6 * cc + 1)) ∧ isP (xs (6 * cc + 3))
      · obtain ⟨⟨j, hj, e1⟩, ⟨i3, hi3, e3⟩⟩ := hp
        cases hT : P j with
        | var d => exact la_side_a hX hi hx hm hB j i3 hj hi3 _ d hT e1 rfl e3 K
        | op A B =>
          by_cases h0 : (xs (6 * cc + 2)) = 0
          · exact la_side_0 hX hi hx hm hB j i3 hj hi3 A B hT e1 h0 e3 K
          by_cases h1 : (xs (6 * cc + 2)) = 1
          · exact la_side_1 hX hi hx hm hB j i3 hj hi3 A B hT e1 h1 e3 K
          exact la_side_w hX hi hx hm hB j i3 hj hi3 _ h0 h1 e1 rfl e3 K
      · exact la_side_n hX hi hx hm hB _ _ _ hp rfl rfl rfl K
    by_cases hz33_8 : (xs (6 * cc)) &&& 15 = 8
    · refine aw_tabK 8 329 362 hz33_8 rfl (by decide) ?_
      by_cases hp : isP (xs (6 * cc + 1))
      · obtain ⟨j, hj, e1⟩ := hp
        by_cases hv : ∃ v, v < 4611686018427387904 ∧ stE (xs (6 * cc + 2)) (xs (6 * cc + 3)) = lN v
        · obtain ⟨v, v1, v2⟩ := hv
          exact la_set_y hX hi hx hm hB j hj _ _ v v1 v2 e1 rfl rfl K
        · exact la_set_v hX hi hx hm hB j hj _ _ _ rfl hv e1 rfl rfl K
      · exact la_set_n hX hi hx hm hB _ _ _ hp _ rfl rfl rfl rfl K
    by_cases hz33_9 : (xs (6 * cc)) &&& 15 = 9
    · refine aw_tabK 9 392 425 hz33_9 rfl (by decide) ?_
      by_cases hp : isP (xs (6 * cc + 1))
      · obtain ⟨j, hj, e1⟩ := hp
        cases hT : P j with
        | var d =>
          rcases (show d % 2 = 0 ∨ d % 2 = 1 by omega) with z | z
          · exact la_num_y hX hi hx hm hB j hj d hT z e1 K
          · exact la_num_s hX hi hx hm hB j hj d hT z e1 K
        | op A B => exact la_num_p hX hi hx hm hB j hj A B hT e1 K
      · exact la_num_n hX hi hx hm hB _ hp rfl K
    by_cases hz33_10 : (xs (6 * cc)) &&& 15 = 10
    · refine aw_tabK 10 416 449 hz33_10 rfl (by decide) ?_
      by_cases hp : isP (xs (6 * cc + 1))
      · obtain ⟨j, hj, e1⟩ := hp
        by_cases h0 : (xs (6 * cc + 2)) = 0
        · cases hT : P j with
          | var d =>
            rcases (show d % 2 = 0 ∨ d % 2 = 1 by omega) with z | z
            · exact la_about_0n hX hi hx hm hB j hj d hT z e1 h0 K
            · exact la_about_0s hX hi hx hm hB j hj d hT z e1 h0 K
          | op A B => exact la_about_0p hX hi hx hm hB j hj A B hT e1 h0 K
        by_cases h1 : (xs (6 * cc + 2)) = 1
        · exact la_about_1 hX hi hx hm hB j hj e1 h1 K
        by_cases h2 : (xs (6 * cc + 2)) = 2
        · exact la_about_2 hX hi hx hm hB j hj e1 h2 K
        by_cases h3 : (xs (6 * cc + 2)) = 3
        · exact la_about_3 hX hi hx hm hB j hj e1 h3 K
        by_cases h4 : (xs (6 * cc + 2)) = 4
        · exact la_about_4 hX hi hx hm hB j hj e1 h4 K
        exact la_about_w hX hi hx hm hB j hj _ ⟨h0, h1, h2, h3, h4⟩ e1 rfl K
      · exact la_about_n hX hi hx hm hB _ _ hp rfl rfl K
    by_cases hz33_11 : (xs (6 * cc)) &&& 15 = 11
    · refine aw_tabK 11 449 482 hz33_11 rfl (by decide) ?_
      by_cases hp : isP (xs (6 * cc + 1)) ∧ isP (xs (6 * cc + 2))
      · obtain ⟨⟨j, hj, e1⟩, ⟨k, hk, e2⟩⟩ := hp
        by_cases he : P j = P k
        · exact la_same_e hX hi hx hm hB j k hj hk he e1 e2 K
        · exact la_same_d hX hi hx hm hB j k hj hk he e1 e2 K
      · exact la_same_n hX hi hx hm hB _ _ hp rfl rfl K
    by_cases hz33_12 : (xs (6 * cc)) &&& 15 = 12
    · refine aw_tabK 12 482 515 hz33_12 rfl (by decide) ?_
      by_cases hp : isP (xs (6 * cc + 1)) ∧ isP (xs (6 * cc + 2))
      · obtain ⟨⟨j, hj, e1⟩, ⟨k, hk, e2⟩⟩ := hp
        exact la_below_y hX hi hx hm hB j k hj hk e1 e2 K
      · exact la_below_n hX hi hx hm hB _ _ hp rfl rfl K
    refine aw_tabD 548 rfl (by have q0 := lv_neT (a := 0) hz33_0 (by decide); have q1 := lv_neT (a := 1) hz33_1 (by decide); have q2 := lv_neT (a := 2) hz33_2 (by decide); have q3 := lv_neT (a := 3) hz33_3 (by decide); have q4 := lv_neT (a := 4) hz33_4 (by decide); have q5 := lv_neT (a := 5) hz33_5 (by decide); have q6 := lv_neT (a := 6) hz33_6 (by decide); have q7 := lv_neT (a := 7) hz33_7 (by decide); have q8 := lv_neT (a := 8) hz33_8 (by decide); have q9 := lv_neT (a := 9) hz33_9 (by decide); have q10 := lv_neT (a := 10) hz33_10 (by decide); have q11 := lv_neT (a := 11) hz33_11 (by decide); have q12 := lv_neT (a := 12) hz33_12 (by decide); omega) (by decide) ?_
    exact K cap _ ⟨n, Q, mn, mns, T, L, w, P, F, FP, O, _, _, x_mk hx, m_mk hm, hB.mono (by omega) (by omega) (by omega), rfl⟩
/-- YOUR PART: from the entry, for every script of at most 3072 ints, the law comes to its end with true -/
theorem whole_start {p : Program} {e : Env} {s : State} {m : MethodId} {below : List Frame} {meth : Method} {c : Code} (l : Launch) {b L : Nat} {xs : Nat → Int32} (hL : L ≤ 3072) (C0 : lw_At p s m meth c b L xs) : W p l e room_1 s m #[Value.ref b] below meth c s.heap [] 0 0 (lw_Z below #[Value.ref b] s) (entryFrame m ([Value.ref b] : List Value).toArray 4) := by
  obtain ⟨G, μ0, hX, hK⟩ := la_enter (e := e) (below := below) l hL C0
  exact hK (la_all hX)
set_option maxHeartbeats 4000000 in
theorem lw_walk (l : Launch) (b : Addr) (xs : List Int32) : MetFree l x (headSpec (Jvm.Cond.code x code maxLocals ret :: tables_1) room_1) (lw_P b xs) (fun _ _ _ _ _ => True) lw_Q := by
  refine MetFree.of_bodyS (code := code) (maxLocals := maxLocals) (ret := ret) (by decide) ?_ ?_
  · intro args s m h hn
    obtain ⟨meth, c, h1, h2, h3, h4, h5, h6, -, -⟩ := Cond.code_spec hn (atoms_spec (ws := Jvm.Cond.code x code maxLocals ret :: tables_1) h _ List.mem_cons_self)
    exact ⟨meth, c, h1, h2, h3, h4, h5, h6⟩
  · intro p e s m args below meth c s₁ B hml0 hP _
    obtain ⟨rfl, hx, hbd, hgv⟩ := hP
    obtain ⟨scr, harrAt, hlist, hof, hsmall⟩ := hx
    obtain ⟨hcb, hkn, -, -⟩ := State.arrayAt?_spec harrAt
    have hown : s.vm.findClass R_law = some m.cls := findClass_of_methodNamed B.named
    have hts0 : ∀ c ∈ (Jvm.Cond.code x code maxLocals ret :: tables_1), c.before #[Value.ref b] s = true := atoms_spec (ws := Jvm.Cond.code x code maxLocals ret :: tables_1) B.pre
    have hts : ∀ w ∈ lw_tbl, w.before #[Value.ref b] s = true := k2_hts_sels lw_privs (fun w hw => hts0 w (List.mem_cons_of_mem _ hw)) lw_privs_ok
    have hml : c.maxLocals = 4 := B.maxLocals_eq (hts0 _ List.mem_cons_self)
    have X₀ : Stand p l e room_1 s m #[Value.ref b] below meth c s₁ [] 0 0 := Stand.of_body B
    have hh0 : s₁.heap = s.heap := by rw [B.state]; rfl
    have hsz : scr.slots.size = xs.length := by rw [← Array.length_toList, hlist, List.length_map]
    have hval : ∀ j : Nat, j < xs.length → scr.slots[j]? = some (.int (xs.getD j 0)) := fun j hj => by
      rw [← Array.getElem?_toList, hlist]
      simp [hj]
    have hbl : b < s.heap.size := (Array.getElem?_eq_some_iff.mp hcb).1
    have hX : va_X b xs.length (fun j => xs.getD j 0) s s.heap := ⟨scr, hcb, hof, hkn, hsz, hval⟩
    have K : W p l e room_1 s m #[Value.ref b] below meth c s₁.heap [] 0 0 (lw_Z below #[Value.ref b] s) (entryFrame m ([Value.ref b] : List Value).toArray 4) := by
      rw [hh0]
      exact whole_start l hbd ⟨B.exec, B.bytes, B.returns, hml, hown, hts, hX, hbl, B.notSynchronized, hgv⟩
    obtain ⟨t, a1, o, b1, b2, b3⟩ := K s₁ rfl X₀
    exact ⟨t, o, a1, b1, b2, b3⟩
theorem lw_pre_spec {args : Array Value} {s : State} (h : (Jvm.Cond.and given_1 narrow_1).before args s = true) (hr : rest_1_c.before args s = true) : ∃ (b : Addr) (xs : List Int32), lw_P b xs args s := by
  have hs := flat_of_before _ h
  have hq := flat_of_before _ hr
  have hc : (Cond.count 1).before args s = true := hs _ (by decide +kernel)
  have harr : (Cond.arrayOf (.arg 0) .int).before args s = true := hs _ (by decide +kernel)
  have hle : (Cond.le (.length (.arg 0)) (.int 3072)).before args s = true := hs _ (by decide +kernel)
  have hlen : (Cond.isInt (.length (.arg 0))).before args s = true := hq _ (by decide +kernel)
  have hall : (Cond.all (.arg 0) (.isInt (.elem (.arg 0) (.index 0)))).before args s = true := hq _ (by decide +kernel)
  obtain ⟨b, xs, hb, hx⟩ := State.ints_of_pre rfl harr hlen hall
  have hsm : xs.length < 2 ^ 31 := hx.choose_spec.2.2.2
  have hev : (Term.length (.arg 0)).eval args s none [] s = some (.int xs.length.toInt32) := hx.length_eval hb
  have hv := Cond.le_ints hev (show (Term.int 3072).eval args s none [] s = some (.int 3072) from rfl)
  have hd : xs.length.toInt32 ≤ 3072 := by
    simpa [Cond.before, Cond.holds, hv] using hle
  have hN : xs.length ≤ 3072 := (Int32.ofNat_le_ofNat hsm (by decide)).mp (show Int32.ofNat xs.length ≤ Int32.ofNat 3072 from hd)
  exact ⟨b, xs, Cond.one_arg hc (show args[0]? = some (.ref b) from hb), hx, hN, h⟩
theorem lw_comes (l : Launch) : Comes l x (Jvm.Cond.code x code maxLocals ret :: tables_1) room_1 (fun tb e args s => Calls_1 tb e args s ∧ rest_1 tb e args s ∧ Pre_1 tb e args s)
    (fun _ _ args s o t => lw_Q args s o t) := by
  intro p e ha hc hk s m args below hf hfit hheap happ hpre
  obtain ⟨b, xs, hP⟩ := lw_pre_spec hpre.2.2 hpre.2.1
  obtain ⟨k, o, h1, h2, h3, hQ⟩ := lw_walk l b xs p e ha hc hk s m args below hf ((Spec.applies_iff_loose hf).mp happ).1 hP trivial
  exact ⟨k, o, h1, h2, h3, hQ⟩
theorem lw_frame {s t : State} {o : Outcome} {args : Array Value} (h : Framed s o t [] 600000 7302250) :
    Framed s o t (fieldLocs frame_1_writes args s ++ arrayLocs frame_1_arrays args s ++ staticLocs frame_1_statics s) 600000 7302250 := h
theorem lw_limb (L : Cond) (hL : ∀ (args : Array Value) (s t : State), L.after args s (.returned (some (.int 1))) t = true) :
    ArmFor flags0 classFile x code maxLocals ret World_1 tables_1 room_1 Calls_1 rest_1 Pre_1
      (fun tb e a s o t => postC L tb e a s o t ∧ Framed s o t (fieldLocs frame_1_writes a s ++ arrayLocs frame_1_arrays a s ++ staticLocs frame_1_statics s) 600000 7302250) := by
  intro l _ _ _ p e ha hc hk s m args below hf hfit hheap happ hpre
  obtain ⟨k, o, h1, h2, h3, rfl, hF⟩ := lw_comes l p e ha hc hk s m args below hf hfit hheap happ hpre
  exact ⟨k, _, h1, h2, h3, hL args s _, lw_frame hF⟩
theorem i_vc : Claimed_1_1 ∧ Claimed_1_2 := ⟨lw_limb limb_1_1 (fun args s t => by simp [limb_1_1, Cond.after, Cond.holds, Cond.value]), lw_limb limb_1_2 (fun args s t => Cond.after_iff.mpr (by
  first | (rw [show limb_1_2 = Cond.eq .result (.int 1) from rfl, Cond.eq_ints (x := 1) (y := 1) rfl rfl]; simp; done) | (simp [limb_1_2, Cond.value, Term.eval]; done)))⟩
