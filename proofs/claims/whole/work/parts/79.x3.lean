/-! the class's methods that make objects -/
theorem pl_ext {n n3 : Nat} {t t3 : Nat → Tr} {pl : Nat → Int32} {P : Nat → Tr} (h : ∀ j, j < 8 → ∃ i, i < n ∧ pl j = nI i ∧ t i = P j) (hn : n ≤ n3) (ht : ∀ i, i < n → t3 i = t i) : ∀ j, j < 8 → ∃ i, i < n3 ∧ pl j = nI i ∧ t3 i = P j := by
  intro j hj
  obtain ⟨i, h1, h2, h3⟩ := h j hj
  exact ⟨i, by omega, h2, by rw [ht i h1]; exact h3⟩
theorem xs_lo {v : Nat} (hv : v < 4611686018427387904) : ¬ lg_cmp (lN v) 0 < 0 := by
  unfold lg_cmp
  by_cases z : v = 0
  · subst z
    decide
  · rw [if_pos (show (0 : Int64) < lN v from (pk_lLT (a := 0) (b := v) (by omega) (by omega)).mpr (by omega))]
    decide
theorem xs_hi {v : Nat} (hv : v < 4611686018427387904) : ¬ 0 < lg_cmp (lN v) 4611686018427387903 := by
  unfold lg_cmp
  rw [if_neg (show ¬ (4611686018427387903 : Int64) < lN v from fun z => by have := (pk_lLT (a := 4611686018427387903) (b := v) (by omega) (by omega)).mp z; omega)]
  split <;> decide
theorem xs_in {x : Int64} (h1 : ¬ lg_cmp x 0 < 0) (h2 : ¬ 0 < lg_cmp x 4611686018427387903) : ∃ v, v < 4611686018427387904 ∧ x = lN v := by
  have a : ¬ x < 0 := fun z => h1 (by
    unfold lg_cmp
    rw [if_neg (fun y : (0 : Int64) < x => by rw [Int64.lt_iff_toInt_lt] at y z; omega), if_neg (fun y => by subst y; exact absurd z (by decide))]
    decide)
  have b : ¬ 4611686018427387903 < x := fun z => h2 (by
    unfold lg_cmp
    rw [if_pos z]
    decide)
  obtain ⟨k, hk, rfl⟩ := pk_lOf a
  refine ⟨k, Nat.not_le.mp fun z => b ?_, rfl⟩
  exact (pk_lLT (a := 4611686018427387903) (b := k) (by omega) hk).mpr (by omega)
theorem rd_fl_5 (k : Nat) (vu : Int64) (lv sg nth : Nat) : rd_fl k vu lv sg nth ≤ 5 := by
  unfold rd_fl
  repeat' split
  all_goals omega
theorem ps_rd_f5 (T : Nat → Nat) (L : Nat) : ∀ (q p nth : Nat) (fs : List Fr) (dn : Option Tr), (ps_rd T L q p nth fs dn).1 ≤ 5 := by
  intro q
  induction q with
  | zero => intro p nth fs dn; exact Nat.zero_le _
  | succ q ih =>
    intro p nth fs dn
    simp only [ps_rd]
    split
    · exact rd_fl_5 _ _ _ _ _
    · split
      · exact Nat.zero_le _
      · exact ih _ _ _ _
def rd_P (P : Nat → Tr) (j : Nat) (R : Nat × Nat × Option Tr) : Nat → Tr := if R.1 = 0 then va_up P j (R.2.2.getD tr_nil) else P
theorem rd_P_n {P : Nat → Tr} {j F FP : Nat} {X : Option Tr} (h : F ≠ 0) : rd_P P j (F, FP, X) = P := if_neg h
theorem rd_P_y {P : Nat → Tr} {j F FP : Nat} {X : Option Tr} {Y : Tr} (h : F = 0) (hX : X = some Y) : rd_P P j (F, FP, X) = va_up P j Y := by
  unfold rd_P
  rw [if_pos h, hX]
  rfl
theorem rd_z {F : Nat} (hF : F < 2 ^ 31) (h : nI F = 0) : F = 0 := nI_inj (b := 0) hF (by omega) h
set_option maxHeartbeats 2000000 in
set_option maxRecDepth 100000 in
theorem c_X_cons_y (l : Launch) (lev : Int32) (hel : Int32) (res : Int32) (sta : Nat → Int32) (bas : Nat → Int32) (obj : Nat → Int32) (nx : Int32) (sa : Int32) (kn : Int32) (vu : Int64) (f : Nat → Int32) (wa : Nat → Int32) (cap : Nat) (keys : Nat → Int64) (dp : Nat → Int32) (ln : Nat → Int32) (mk : Nat → Int32) (pt : Nat → Int32) (sl : Nat → Int32) (top : Int32) (trs : Nat → Int32) (ouf : Nat → Int32) (en : Int32) (ef : Nat → Int32) (gn : Int32) (gf : Nat → Int32) (pl : Nat → Int32) (n no Q e0 : Nat) (t : Nat → Tr) (T : Nat → Nat) (L : Nat) (w : Nat → Nat) (P : Nat → Tr) (F FP : Int32) (O : List Nat) (hx : x_in cap n Q e0 t keys dp ln mk sl f wa pl no ouf T L w P O) (j k m : Nat) (hj : j < 8) (hk : k < 8) (hm : m < 8) (hq : n + 1 ≤ 16384) : Con l y_X_cons M_X_cons 4 127 [.ref 0, .int (nI j), .int (nI k), .int (nI m)] (xH lev hel res F FP sta bas obj nx sa kn vu f wa (nI L) cap keys dp ln mk pt sl (nI n) (nI Q) top trs (nI no) ouf en ef gn gf pl) 1 0 (x_mc cap (n + 1)) (14 * x_mc cap (n + 1)) (fun r h' => r = some (.int 1) ∧ ∃ cap2 n2, cap2 = max cap (st_room (n + 1)) ∧ n ≤ n2 ∧ n2 ≤ n + 1 ∧ x_ok cap2 n2 Q T L w (va_up P m (.op (P j) (P k))) F FP O h') := by
  have xm := x_mc1 (n + 1) hx.1.1.1.1
  refine Con.ent ok_X_cons (by decide +kernel) rfl ?_
  intro pA eA sA mA argsA belowA methA cA GA μA
  refine aw_go 1 1 [some (.ref 0), some (.int (nI j)), some (.int (nI k)), some (.int (nI m))] [.int (nI j)] (xH lev hel res F FP sta bas obj nx sa kn vu f wa (nI L) cap keys dp ln mk pt sl (nI n) (nI Q) top trs (nI no) ouf en ef gn gf pl) rfl ?_
  refine aw_cS [] (c_X_isP1 l j hj) rfl cw_X_74 rfl rfl rfl rfl (by show _ ≤ x_mc cap (n + 1); first | exact Nat.zero_le _ | (simp only [Nat.zero_add, Nat.add_zero]; exact xm.1)) (by show _ ≤ 14 * x_mc cap (n + 1); first | exact Nat.zero_le _ | (simp only [Nat.zero_add, Nat.add_zero]; exact xm.2)) (fun r h' hp => ?_)
  obtain ⟨rfl, rfl⟩ := hp
  refine aw_go 0 4 [some (.ref 0), some (.int (nI j)), some (.int (nI k)), some (.int (nI m))] [.int 1] (xH lev hel res F FP sta bas obj nx sa kn vu f wa (nI L) cap keys dp ln mk pt sl (nI n) (nI Q) top trs (nI no) ouf en ef gn gf pl) rfl ?_
  refine aw_if_eq rfl (fun h4 => absurd h4 (by decide)) (fun h4 => ?_)
  refine aw_go 1 8 [some (.ref 0), some (.int (nI j)), some (.int (nI k)), some (.int (nI m))] [.int (nI k)] (xH lev hel res F FP sta bas obj nx sa kn vu f wa (nI L) cap keys dp ln mk pt sl (nI n) (nI Q) top trs (nI no) ouf en ef gn gf pl) rfl ?_
  refine aw_cS [] (c_X_isP1 l k hk) rfl cw_X_74 rfl rfl rfl rfl (by show _ ≤ x_mc cap (n + 1); first | exact Nat.zero_le _ | (simp only [Nat.zero_add, Nat.add_zero]; exact xm.1)) (by show _ ≤ 14 * x_mc cap (n + 1); first | exact Nat.zero_le _ | (simp only [Nat.zero_add, Nat.add_zero]; exact xm.2)) (fun r h' hp => ?_)
  obtain ⟨rfl, rfl⟩ := hp
  refine aw_go 0 11 [some (.ref 0), some (.int (nI j)), some (.int (nI k)), some (.int (nI m))] [.int 1] (xH lev hel res F FP sta bas obj nx sa kn vu f wa (nI L) cap keys dp ln mk pt sl (nI n) (nI Q) top trs (nI no) ouf en ef gn gf pl) rfl ?_
  refine aw_if_eq rfl (fun h11 => absurd h11 (by decide)) (fun h11 => ?_)
  refine aw_go 1 15 [some (.ref 0), some (.int (nI j)), some (.int (nI k)), some (.int (nI m))] [.int (nI m)] (xH lev hel res F FP sta bas obj nx sa kn vu f wa (nI L) cap keys dp ln mk pt sl (nI n) (nI Q) top trs (nI no) ouf en ef gn gf pl) rfl ?_
  refine aw_cS [] (c_X_isP1 l m hm) rfl cw_X_74 rfl rfl rfl rfl (by show _ ≤ x_mc cap (n + 1); first | exact Nat.zero_le _ | (simp only [Nat.zero_add, Nat.add_zero]; exact xm.1)) (by show _ ≤ 14 * x_mc cap (n + 1); first | exact Nat.zero_le _ | (simp only [Nat.zero_add, Nat.add_zero]; exact xm.2)) (fun r h' hp => ?_)
  obtain ⟨rfl, rfl⟩ := hp
  refine aw_go 0 18 [some (.ref 0), some (.int (nI j)), some (.int (nI k)), some (.int (nI m))] [.int 1] (xH lev hel res F FP sta bas obj nx sa kn vu f wa (nI L) cap keys dp ln mk pt sl (nI n) (nI Q) top trs (nI no) ouf en ef gn gf pl) rfl ?_
  refine aw_if_eq rfl (fun h18 => absurd h18 (by decide)) (fun h18 => ?_)
  refine aw_go 3 26 [some (.ref 0), some (.int (nI j)), some (.int (nI k)), some (.int (nI m))] [.int 1, .ref 9] (xH lev hel res F FP sta bas obj nx sa kn vu f wa (nI L) cap keys dp ln mk pt sl (nI n) (nI Q) top trs (nI no) ouf en ef gn gf pl) rfl ?_
  refine aw_cV [9, 10, 11, 12, 13, 14, 15] (c_St_makeRoom l cap n keys dp ln mk pt sl (nI Q) e0 t hx.1 (1) Q hq hx.2.1) rfl cw_X_82 rfl rfl rfl rfl rfl rfl (by show 0 + _ ≤ x_mc cap (n + 1); rw [Nat.zero_add]; exact xm.1) (by show 0 + _ ≤ 14 * x_mc cap (n + 1); rw [Nat.zero_add]; exact xm.2) (fun r h' hp => ?_)
  obtain ⟨rfl, cap2, e2, keys2, dp2, ln2, mk2, pt2, sl2, hst2, hcap2, hceq, hmk2, rfl⟩ := hp
  refine aw_go 0 29 [some (.ref 0), some (.int (nI j)), some (.int (nI k)), some (.int (nI m))] [.int 1] (xH lev hel res F FP sta bas obj nx sa kn vu f wa (nI L) cap2 keys2 dp2 ln2 mk2 pt2 sl2 (nI n) (nI Q) top trs (nI no) ouf en ef gn gf pl) rfl ?_
  refine aw_if_ne rfl (fun h29 => ?_) (fun h29 => absurd h29 (by decide))
  refine aw_go 8 48 [some (.ref 0), some (.int (nI j)), some (.int (nI k)), some (.int (nI m))] [.int (nI j), .ref 24, .ref 9, .int (nI m), .ref 24] (xH lev hel res F FP sta bas obj nx sa kn vu f wa (nI L) cap2 keys2 dp2 ln2 mk2 pt2 sl2 (nI n) (nI Q) top trs (nI no) ouf en ef gn gf pl) rfl ?_
  refine aw_ialdN rfl rfl ⟨by omega, by omega⟩ ?_
  obtain ⟨i, hi, hpl_i, ht_i⟩ := hx.2.2.2.2.1 j hj
  rw [hpl_i]
  refine aw_go 3 54 [some (.ref 0), some (.int (nI j)), some (.int (nI k)), some (.int (nI m))] [.int (nI k), .ref 24, .int (nI i), .ref 9, .int (nI m), .ref 24] (xH lev hel res F FP sta bas obj nx sa kn vu f wa (nI L) cap2 keys2 dp2 ln2 mk2 pt2 sl2 (nI n) (nI Q) top trs (nI no) ouf en ef gn gf pl) rfl ?_
  refine aw_ialdN rfl rfl ⟨by omega, by omega⟩ ?_
  obtain ⟨i2, hi2, hpl_i2, ht_i2⟩ := hx.2.2.2.2.1 k hk
  rw [hpl_i2]
  refine aw_cV [9, 10, 11, 12, 13, 14, 15] (c_St_pairOf l cap2 n keys2 dp2 ln2 mk2 pt2 sl2 (nI Q) e2 t hst2 i i2 hi hi2 (by omega)) rfl cw_X_110 rfl rfl rfl rfl rfl rfl (by show _ ≤ x_mc cap (n + 1); first | exact Nat.zero_le _ | (simp only [Nat.zero_add, Nat.add_zero]; exact xm.1)) (by show _ ≤ 14 * x_mc cap (n + 1); first | exact Nat.zero_le _ | (simp only [Nat.zero_add, Nat.add_zero]; exact xm.2)) (fun r h' hp => ?_)
  obtain ⟨j3, n3, keys3, dp3, ln3, sl3, t3, g1, g2, g3, g4, g5, g6, rfl, rfl⟩ := hp
  refine aw_go 0 58 [some (.ref 0), some (.int (nI j)), some (.int (nI k)), some (.int (nI m))] [.int (nI j3), .int (nI m), .ref 24] (xH lev hel res F FP sta bas obj nx sa kn vu f wa (nI L) cap2 keys3 dp3 ln3 mk2 pt2 sl3 (nI n3) (nI Q) top trs (nI no) ouf en ef gn gf pl) rfl ?_
  refine aw_iastN rfl rfl ⟨by omega, by omega⟩ ?_
  refine aw_go 1 60 [some (.ref 0), some (.int (nI j)), some (.int (nI k)), some (.int (nI m))] [.int 1] (xH lev hel res F FP sta bas obj nx sa kn vu f wa (nI L) cap2 keys3 dp3 ln3 mk2 pt2 sl3 (nI n3) (nI Q) top trs (nI no) ouf en ef gn gf (upd pl m (nI j3))) rfl ?_
  exact aw_iret rfl (by decide) rfl ⟨rfl, cap2, n3, hceq, g4, g5, x_mk ⟨g1, hmk2, hx.2.2.1, hx.2.2.2.1, pl_up (pl_ext hx.2.2.2.2.1 g4 g6) ⟨j3, g2, rfl, by rw [g3, ht_i, ht_i2]⟩, hx.2.2.2.2.2⟩⟩ rfl (by show _ ≤ x_mc cap (n + 1); first | exact Nat.zero_le _ | (simp only [Nat.zero_add, Nat.add_zero]; exact xm.1)) (by show _ ≤ 14 * x_mc cap (n + 1); first | exact Nat.zero_le _ | (simp only [Nat.zero_add, Nat.add_zero]; exact xm.2)) -- [.int 1] (xH lev hel res F FP sta bas obj nx sa kn vu f wa (nI L) cap2 keys3 dp3 ln3 mk2 pt2 sl3 (nI n3) (nI Q) top trs (nI no) ouf en ef gn gf (upd pl m (nI j3)))
set_option maxHeartbeats 2000000 in
set_option maxRecDepth 100000 in
theorem c_X_cons_n (l : Launch) (lev : Int32) (hel : Int32) (res : Int32) (sta : Nat → Int32) (bas : Nat → Int32) (obj : Nat → Int32) (nx : Int32) (sa : Int32) (kn : Int32) (vu : Int64) (f : Nat → Int32) (wa : Nat → Int32) (cap : Nat) (keys : Nat → Int64) (dp : Nat → Int32) (ln : Nat → Int32) (mk : Nat → Int32) (pt : Nat → Int32) (sl : Nat → Int32) (top : Int32) (trs : Nat → Int32) (ouf : Nat → Int32) (en : Int32) (ef : Nat → Int32) (gn : Int32) (gf : Nat → Int32) (pl : Nat → Int32) (n no Q e0 : Nat) (t : Nat → Tr) (T : Nat → Nat) (L : Nat) (w : Nat → Nat) (P : Nat → Tr) (F FP : Int32) (O : List Nat) (hx : x_in cap n Q e0 t keys dp ln mk sl f wa pl no ouf T L w P O) (p q s : Int32) (hno : ¬ (isP p ∧ isP q ∧ isP s)) : Con l y_X_cons M_X_cons 4 127 [.ref 0, .int p, .int q, .int s] (xH lev hel res F FP sta bas obj nx sa kn vu f wa (nI L) cap keys dp ln mk pt sl (nI n) (nI Q) top trs (nI no) ouf en ef gn gf pl) 1 0 0 0 (fun r h' => r = some (.int 0) ∧ x_ok cap n Q T L w P F FP O h') := by
  refine Con.ent ok_X_cons (by decide +kernel) rfl ?_
  intro pA eA sA mA argsA belowA methA cA GA μA
  refine aw_go 1 1 [some (.ref 0), some (.int p), some (.int q), some (.int s)] [.int p] (xH lev hel res F FP sta bas obj nx sa kn vu f wa (nI L) cap keys dp ln mk pt sl (nI n) (nI Q) top trs (nI no) ouf en ef gn gf pl) rfl ?_
  refine aw_cS [] (c_X_isPl l p) rfl cw_X_74 rfl rfl rfl rfl (Nat.le_refl _) (Nat.le_refl _) (fun r h' hp => ?_)
  rcases hp with ⟨hp_p, rfl, rfl⟩ | ⟨hp_p, rfl, rfl⟩
  · refine aw_go 0 4 [some (.ref 0), some (.int p), some (.int q), some (.int s)] [.int 1] (xH lev hel res F FP sta bas obj nx sa kn vu f wa (nI L) cap keys dp ln mk pt sl (nI n) (nI Q) top trs (nI no) ouf en ef gn gf pl) rfl ?_
    refine aw_if_eq rfl (fun h4 => absurd h4 (by decide)) (fun h4 => ?_)
    refine aw_go 1 8 [some (.ref 0), some (.int p), some (.int q), some (.int s)] [.int q] (xH lev hel res F FP sta bas obj nx sa kn vu f wa (nI L) cap keys dp ln mk pt sl (nI n) (nI Q) top trs (nI no) ouf en ef gn gf pl) rfl ?_
    refine aw_cS [] (c_X_isPl l q) rfl cw_X_74 rfl rfl rfl rfl (Nat.le_refl _) (Nat.le_refl _) (fun r h' hp => ?_)
    rcases hp with ⟨hp_q, rfl, rfl⟩ | ⟨hp_q, rfl, rfl⟩
    · refine aw_go 0 11 [some (.ref 0), some (.int p), some (.int q), some (.int s)] [.int 1] (xH lev hel res F FP sta bas obj nx sa kn vu f wa (nI L) cap keys dp ln mk pt sl (nI n) (nI Q) top trs (nI no) ouf en ef gn gf pl) rfl ?_
      refine aw_if_eq rfl (fun h11 => absurd h11 (by decide)) (fun h11 => ?_)
      refine aw_go 1 15 [some (.ref 0), some (.int p), some (.int q), some (.int s)] [.int s] (xH lev hel res F FP sta bas obj nx sa kn vu f wa (nI L) cap keys dp ln mk pt sl (nI n) (nI Q) top trs (nI no) ouf en ef gn gf pl) rfl ?_
      refine aw_cS [] (c_X_isPl l s) rfl cw_X_74 rfl rfl rfl rfl (Nat.le_refl _) (Nat.le_refl _) (fun r h' hp => ?_)
      rcases hp with ⟨hp_s, rfl, rfl⟩ | ⟨hp_s, rfl, rfl⟩
      · exact absurd ⟨hp_p, hp_q, hp_s⟩ hno
      · refine aw_go 0 18 [some (.ref 0), some (.int p), some (.int q), some (.int s)] [.int 0] (xH lev hel res F FP sta bas obj nx sa kn vu f wa (nI L) cap keys dp ln mk pt sl (nI n) (nI Q) top trs (nI no) ouf en ef gn gf pl) rfl ?_
        refine aw_if_eq rfl (fun h18 => ?_) (fun h18 => absurd h18 (by decide))
        refine aw_go 1 33 [some (.ref 0), some (.int p), some (.int q), some (.int s)] [.int 0] (xH lev hel res F FP sta bas obj nx sa kn vu f wa (nI L) cap keys dp ln mk pt sl (nI n) (nI Q) top trs (nI no) ouf en ef gn gf pl) rfl ?_
        exact aw_iret rfl (by decide) rfl ⟨rfl, x_mk hx⟩ rfl (Nat.le_refl _) (Nat.le_refl _) -- [.int 0] (xH lev hel res F FP sta bas obj nx sa kn vu f wa (nI L) cap keys dp ln mk pt sl (nI n) (nI Q) top trs (nI no) ouf en ef gn gf pl)
    · refine aw_go 0 11 [some (.ref 0), some (.int p), some (.int q), some (.int s)] [.int 0] (xH lev hel res F FP sta bas obj nx sa kn vu f wa (nI L) cap keys dp ln mk pt sl (nI n) (nI Q) top trs (nI no) ouf en ef gn gf pl) rfl ?_
      refine aw_if_eq rfl (fun h11 => ?_) (fun h11 => absurd h11 (by decide))
      refine aw_go 1 33 [some (.ref 0), some (.int p), some (.int q), some (.int s)] [.int 0] (xH lev hel res F FP sta bas obj nx sa kn vu f wa (nI L) cap keys dp ln mk pt sl (nI n) (nI Q) top trs (nI no) ouf en ef gn gf pl) rfl ?_
      exact aw_iret rfl (by decide) rfl ⟨rfl, x_mk hx⟩ rfl (Nat.le_refl _) (Nat.le_refl _) -- [.int 0] (xH lev hel res F FP sta bas obj nx sa kn vu f wa (nI L) cap keys dp ln mk pt sl (nI n) (nI Q) top trs (nI no) ouf en ef gn gf pl)
  · refine aw_go 0 4 [some (.ref 0), some (.int p), some (.int q), some (.int s)] [.int 0] (xH lev hel res F FP sta bas obj nx sa kn vu f wa (nI L) cap keys dp ln mk pt sl (nI n) (nI Q) top trs (nI no) ouf en ef gn gf pl) rfl ?_
    refine aw_if_eq rfl (fun h4 => ?_) (fun h4 => absurd h4 (by decide))
    refine aw_go 1 33 [some (.ref 0), some (.int p), some (.int q), some (.int s)] [.int 0] (xH lev hel res F FP sta bas obj nx sa kn vu f wa (nI L) cap keys dp ln mk pt sl (nI n) (nI Q) top trs (nI no) ouf en ef gn gf pl) rfl ?_
    exact aw_iret rfl (by decide) rfl ⟨rfl, x_mk hx⟩ rfl (Nat.le_refl _) (Nat.le_refl _) -- [.int 0] (xH lev hel res F FP sta bas obj nx sa kn vu f wa (nI L) cap keys dp ln mk pt sl (nI n) (nI Q) top trs (nI no) ouf en ef gn gf pl)
set_option maxHeartbeats 2000000 in
set_option maxRecDepth 100000 in
theorem c_X_set_y (l : Launch) (lev : Int32) (hel : Int32) (res : Int32) (sta : Nat → Int32) (bas : Nat → Int32) (obj : Nat → Int32) (nx : Int32) (sa : Int32) (kn : Int32) (vu : Int64) (f : Nat → Int32) (wa : Nat → Int32) (cap : Nat) (keys : Nat → Int64) (dp : Nat → Int32) (ln : Nat → Int32) (mk : Nat → Int32) (pt : Nat → Int32) (sl : Nat → Int32) (top : Int32) (trs : Nat → Int32) (ouf : Nat → Int32) (en : Int32) (ef : Nat → Int32) (gn : Int32) (gf : Nat → Int32) (pl : Nat → Int32) (n no Q e0 : Nat) (t : Nat → Tr) (T : Nat → Nat) (L : Nat) (w : Nat → Nat) (P : Nat → Tr) (F FP : Int32) (O : List Nat) (hx : x_in cap n Q e0 t keys dp ln mk sl f wa pl no ouf T L w P O) (j : Nat) (hj : j < 8) (v : Nat) (hv : v < 4611686018427387904) (hq : n + 1 ≤ 16384) : Con l y_X_set M_X_set 4 127 [.ref 0, .int (nI j), .long (lN v)] (xH lev hel res F FP sta bas obj nx sa kn vu f wa (nI L) cap keys dp ln mk pt sl (nI n) (nI Q) top trs (nI no) ouf en ef gn gf pl) 1 0 (x_mc cap (n + 1)) (14 * x_mc cap (n + 1)) (fun r h' => r = some (.int 1) ∧ ∃ cap2 n2, cap2 = max cap (st_room (n + 1)) ∧ n ≤ n2 ∧ n2 ≤ n + 1 ∧ x_ok cap2 n2 Q T L w (va_up P j (tr_nat v)) F FP O h') := by
  have xm := x_mc1 (n + 1) hx.1.1.1.1
  refine Con.ent ok_X_set (by decide +kernel) rfl ?_
  intro pA eA sA mA argsA belowA methA cA GA μA
  refine aw_go 1 1 [some (.ref 0), some (.int (nI j)), some (.long (lN v)), none] [.int (nI j)] (xH lev hel res F FP sta bas obj nx sa kn vu f wa (nI L) cap keys dp ln mk pt sl (nI n) (nI Q) top trs (nI no) ouf en ef gn gf pl) rfl ?_
  refine aw_cS [] (c_X_isP1 l j hj) rfl cw_X_74 rfl rfl rfl rfl (by show _ ≤ x_mc cap (n + 1); first | exact Nat.zero_le _ | (simp only [Nat.zero_add, Nat.add_zero]; exact xm.1)) (by show _ ≤ 14 * x_mc cap (n + 1); first | exact Nat.zero_le _ | (simp only [Nat.zero_add, Nat.add_zero]; exact xm.2)) (fun r h' hp => ?_)
  obtain ⟨rfl, rfl⟩ := hp
  refine aw_go 0 4 [some (.ref 0), some (.int (nI j)), some (.long (lN v)), none] [.int 1] (xH lev hel res F FP sta bas obj nx sa kn vu f wa (nI L) cap keys dp ln mk pt sl (nI n) (nI Q) top trs (nI no) ouf en ef gn gf pl) rfl ?_
  refine aw_if_eq rfl (fun h4 => absurd h4 (by decide)) (fun h4 => ?_)
  refine aw_go 3 10 [some (.ref 0), some (.int (nI j)), some (.long (lN v)), none] [.int (lg_cmp (lN v) 0)] (xH lev hel res F FP sta bas obj nx sa kn vu f wa (nI L) cap keys dp ln mk pt sl (nI n) (nI Q) top trs (nI no) ouf en ef gn gf pl) rfl ?_
  refine aw_if_lt rfl (fun h10 => absurd h10 (xs_lo hv)) (fun h10 => ?_)
  refine aw_go 3 18 [some (.ref 0), some (.int (nI j)), some (.long (lN v)), none] [.int (lg_cmp (lN v) 4611686018427387903)] (xH lev hel res F FP sta bas obj nx sa kn vu f wa (nI L) cap keys dp ln mk pt sl (nI n) (nI Q) top trs (nI no) ouf en ef gn gf pl) rfl ?_
  refine aw_if_gt rfl (fun h18 => absurd h18 (xs_hi hv)) (fun h18 => ?_)
  refine aw_go 3 26 [some (.ref 0), some (.int (nI j)), some (.long (lN v)), none] [.int 1, .ref 9] (xH lev hel res F FP sta bas obj nx sa kn vu f wa (nI L) cap keys dp ln mk pt sl (nI n) (nI Q) top trs (nI no) ouf en ef gn gf pl) rfl ?_
  refine aw_cV [9, 10, 11, 12, 13, 14, 15] (c_St_makeRoom l cap n keys dp ln mk pt sl (nI Q) e0 t hx.1 (1) Q hq hx.2.1) rfl cw_X_82 rfl rfl rfl rfl rfl rfl (by show 0 + _ ≤ x_mc cap (n + 1); rw [Nat.zero_add]; exact xm.1) (by show 0 + _ ≤ 14 * x_mc cap (n + 1); rw [Nat.zero_add]; exact xm.2) (fun r h' hp => ?_)
  obtain ⟨rfl, cap2, e2, keys2, dp2, ln2, mk2, pt2, sl2, hst2, hcap2, hceq, hmk2, rfl⟩ := hp
  refine aw_go 0 29 [some (.ref 0), some (.int (nI j)), some (.long (lN v)), none] [.int 1] (xH lev hel res F FP sta bas obj nx sa kn vu f wa (nI L) cap2 keys2 dp2 ln2 mk2 pt2 sl2 (nI n) (nI Q) top trs (nI no) ouf en ef gn gf pl) rfl ?_
  refine aw_if_ne rfl (fun h29 => ?_) (fun h29 => absurd h29 (by decide))
  refine aw_go 6 44 [some (.ref 0), some (.int (nI j)), some (.long (lN v)), none] [.long (lN v), .ref 9, .int (nI j), .ref 24] (xH lev hel res F FP sta bas obj nx sa kn vu f wa (nI L) cap2 keys2 dp2 ln2 mk2 pt2 sl2 (nI n) (nI Q) top trs (nI no) ouf en ef gn gf pl) rfl ?_
  refine aw_cV [9, 10, 11, 12, 13, 14, 15] (c_St_naturalOf l cap2 n keys2 dp2 ln2 mk2 pt2 sl2 (nI Q) e2 t hst2 v hv (by omega)) rfl cw_X_125 rfl rfl rfl rfl rfl rfl (by show _ ≤ x_mc cap (n + 1); first | exact Nat.zero_le _ | (simp only [Nat.zero_add, Nat.add_zero]; exact xm.1)) (by show _ ≤ 14 * x_mc cap (n + 1); first | exact Nat.zero_le _ | (simp only [Nat.zero_add, Nat.add_zero]; exact xm.2)) (fun r h' hp => ?_)
  obtain ⟨j3, n3, keys3, dp3, ln3, sl3, t3, g1, g2, g3, g4, g5, g6, rfl, rfl⟩ := hp
  refine aw_go 0 47 [some (.ref 0), some (.int (nI j)), some (.long (lN v)), none] [.int (nI j3), .int (nI j), .ref 24] (xH lev hel res F FP sta bas obj nx sa kn vu f wa (nI L) cap2 keys3 dp3 ln3 mk2 pt2 sl3 (nI n3) (nI Q) top trs (nI no) ouf en ef gn gf pl) rfl ?_
  refine aw_iastN rfl rfl ⟨by omega, by omega⟩ ?_
  refine aw_go 1 49 [some (.ref 0), some (.int (nI j)), some (.long (lN v)), none] [.int 1] (xH lev hel res F FP sta bas obj nx sa kn vu f wa (nI L) cap2 keys3 dp3 ln3 mk2 pt2 sl3 (nI n3) (nI Q) top trs (nI no) ouf en ef gn gf (upd pl j (nI j3))) rfl ?_
  exact aw_iret rfl (by decide) rfl ⟨rfl, cap2, n3, hceq, g4, g5, x_mk ⟨g1, hmk2, hx.2.2.1, hx.2.2.2.1, pl_up (pl_ext hx.2.2.2.2.1 g4 g6) ⟨j3, g2, rfl, g3⟩, hx.2.2.2.2.2⟩⟩ rfl (by show _ ≤ x_mc cap (n + 1); first | exact Nat.zero_le _ | (simp only [Nat.zero_add, Nat.add_zero]; exact xm.1)) (by show _ ≤ 14 * x_mc cap (n + 1); first | exact Nat.zero_le _ | (simp only [Nat.zero_add, Nat.add_zero]; exact xm.2)) -- [.int 1] (xH lev hel res F FP sta bas obj nx sa kn vu f wa (nI L) cap2 keys3 dp3 ln3 mk2 pt2 sl3 (nI n3) (nI Q) top trs (nI no) ouf en ef gn gf (upd pl j (nI j3)))
set_option maxHeartbeats 2000000 in
set_option maxRecDepth 100000 in
theorem c_X_set_n (l : Launch) (lev : Int32) (hel : Int32) (res : Int32) (sta : Nat → Int32) (bas : Nat → Int32) (obj : Nat → Int32) (nx : Int32) (sa : Int32) (kn : Int32) (vu : Int64) (f : Nat → Int32) (wa : Nat → Int32) (cap : Nat) (keys : Nat → Int64) (dp : Nat → Int32) (ln : Nat → Int32) (mk : Nat → Int32) (pt : Nat → Int32) (sl : Nat → Int32) (top : Int32) (trs : Nat → Int32) (ouf : Nat → Int32) (en : Int32) (ef : Nat → Int32) (gn : Int32) (gf : Nat → Int32) (pl : Nat → Int32) (n no Q e0 : Nat) (t : Nat → Tr) (T : Nat → Nat) (L : Nat) (w : Nat → Nat) (P : Nat → Tr) (F FP : Int32) (O : List Nat) (hx : x_in cap n Q e0 t keys dp ln mk sl f wa pl no ouf T L w P O) (p : Int32) (x : Int64) (hp : ¬ isP p) : Con l y_X_set M_X_set 4 127 [.ref 0, .int p, .long x] (xH lev hel res F FP sta bas obj nx sa kn vu f wa (nI L) cap keys dp ln mk pt sl (nI n) (nI Q) top trs (nI no) ouf en ef gn gf pl) 1 0 0 0 (fun r h' => r = some (.int 0) ∧ x_ok cap n Q T L w P F FP O h') := by
  refine Con.ent ok_X_set (by decide +kernel) rfl ?_
  intro pA eA sA mA argsA belowA methA cA GA μA
  refine aw_go 1 1 [some (.ref 0), some (.int p), some (.long x), none] [.int p] (xH lev hel res F FP sta bas obj nx sa kn vu f wa (nI L) cap keys dp ln mk pt sl (nI n) (nI Q) top trs (nI no) ouf en ef gn gf pl) rfl ?_
  refine aw_cS [] (c_X_isP0 l p hp) rfl cw_X_74 rfl rfl rfl rfl (Nat.le_refl _) (Nat.le_refl _) (fun r h' hp => ?_)
  obtain ⟨rfl, rfl⟩ := hp
  refine aw_go 0 4 [some (.ref 0), some (.int p), some (.long x), none] [.int 0] (xH lev hel res F FP sta bas obj nx sa kn vu f wa (nI L) cap keys dp ln mk pt sl (nI n) (nI Q) top trs (nI no) ouf en ef gn gf pl) rfl ?_
  refine aw_if_eq rfl (fun h4 => ?_) (fun h4 => absurd h4 (by decide))
  refine aw_go 1 33 [some (.ref 0), some (.int p), some (.long x), none] [.int 0] (xH lev hel res F FP sta bas obj nx sa kn vu f wa (nI L) cap keys dp ln mk pt sl (nI n) (nI Q) top trs (nI no) ouf en ef gn gf pl) rfl ?_
  exact aw_iret rfl (by decide) rfl ⟨rfl, x_mk hx⟩ rfl (Nat.le_refl _) (Nat.le_refl _) -- [.int 0] (xH lev hel res F FP sta bas obj nx sa kn vu f wa (nI L) cap keys dp ln mk pt sl (nI n) (nI Q) top trs (nI no) ouf en ef gn gf pl)
set_option maxHeartbeats 2000000 in
set_option maxRecDepth 100000 in
theorem c_X_set_v (l : Launch) (lev : Int32) (hel : Int32) (res : Int32) (sta : Nat → Int32) (bas : Nat → Int32) (obj : Nat → Int32) (nx : Int32) (sa : Int32) (kn : Int32) (vu : Int64) (f : Nat → Int32) (wa : Nat → Int32) (cap : Nat) (keys : Nat → Int64) (dp : Nat → Int32) (ln : Nat → Int32) (mk : Nat → Int32) (pt : Nat → Int32) (sl : Nat → Int32) (top : Int32) (trs : Nat → Int32) (ouf : Nat → Int32) (en : Int32) (ef : Nat → Int32) (gn : Int32) (gf : Nat → Int32) (pl : Nat → Int32) (n no Q e0 : Nat) (t : Nat → Tr) (T : Nat → Nat) (L : Nat) (w : Nat → Nat) (P : Nat → Tr) (F FP : Int32) (O : List Nat) (hx : x_in cap n Q e0 t keys dp ln mk sl f wa pl no ouf T L w P O) (j : Nat) (hj : j < 8) (x : Int64) (hno : ¬ ∃ v, v < 4611686018427387904 ∧ x = lN v) : Con l y_X_set M_X_set 4 127 [.ref 0, .int (nI j), .long x] (xH lev hel res F FP sta bas obj nx sa kn vu f wa (nI L) cap keys dp ln mk pt sl (nI n) (nI Q) top trs (nI no) ouf en ef gn gf pl) 1 0 0 0 (fun r h' => r = some (.int 0) ∧ x_ok cap n Q T L w P F FP O h') := by
  refine Con.ent ok_X_set (by decide +kernel) rfl ?_
  intro pA eA sA mA argsA belowA methA cA GA μA
  refine aw_go 1 1 [some (.ref 0), some (.int (nI j)), some (.long x), none] [.int (nI j)] (xH lev hel res F FP sta bas obj nx sa kn vu f wa (nI L) cap keys dp ln mk pt sl (nI n) (nI Q) top trs (nI no) ouf en ef gn gf pl) rfl ?_
  refine aw_cS [] (c_X_isP1 l j hj) rfl cw_X_74 rfl rfl rfl rfl (Nat.le_refl _) (Nat.le_refl _) (fun r h' hp => ?_)
  obtain ⟨rfl, rfl⟩ := hp
  refine aw_go 0 4 [some (.ref 0), some (.int (nI j)), some (.long x), none] [.int 1] (xH lev hel res F FP sta bas obj nx sa kn vu f wa (nI L) cap keys dp ln mk pt sl (nI n) (nI Q) top trs (nI no) ouf en ef gn gf pl) rfl ?_
  refine aw_if_eq rfl (fun h4 => absurd h4 (by decide)) (fun h4 => ?_)
  refine aw_go 3 10 [some (.ref 0), some (.int (nI j)), some (.long x), none] [.int (lg_cmp x 0)] (xH lev hel res F FP sta bas obj nx sa kn vu f wa (nI L) cap keys dp ln mk pt sl (nI n) (nI Q) top trs (nI no) ouf en ef gn gf pl) rfl ?_
  refine aw_if_lt rfl (fun h10 => ?_) (fun h10 => ?_)
  · refine aw_go 1 33 [some (.ref 0), some (.int (nI j)), some (.long x), none] [.int 0] (xH lev hel res F FP sta bas obj nx sa kn vu f wa (nI L) cap keys dp ln mk pt sl (nI n) (nI Q) top trs (nI no) ouf en ef gn gf pl) rfl ?_
    exact aw_iret rfl (by decide) rfl ⟨rfl, x_mk hx⟩ rfl (Nat.le_refl _) (Nat.le_refl _) -- [.int 0] (xH lev hel res F FP sta bas obj nx sa kn vu f wa (nI L) cap keys dp ln mk pt sl (nI n) (nI Q) top trs (nI no) ouf en ef gn gf pl)
  · refine aw_go 3 18 [some (.ref 0), some (.int (nI j)), some (.long x), none] [.int (lg_cmp x 4611686018427387903)] (xH lev hel res F FP sta bas obj nx sa kn vu f wa (nI L) cap keys dp ln mk pt sl (nI n) (nI Q) top trs (nI no) ouf en ef gn gf pl) rfl ?_
    refine aw_if_gt rfl (fun h18 => ?_) (fun h18 => absurd (xs_in h10 h18) hno)
    refine aw_go 1 33 [some (.ref 0), some (.int (nI j)), some (.long x), none] [.int 0] (xH lev hel res F FP sta bas obj nx sa kn vu f wa (nI L) cap keys dp ln mk pt sl (nI n) (nI Q) top trs (nI no) ouf en ef gn gf pl) rfl ?_
    exact aw_iret rfl (by decide) rfl ⟨rfl, x_mk hx⟩ rfl (Nat.le_refl _) (Nat.le_refl _) -- [.int 0] (xH lev hel res F FP sta bas obj nx sa kn vu f wa (nI L) cap keys dp ln mk pt sl (nI n) (nI Q) top trs (nI no) ouf en ef gn gf pl)
set_option maxHeartbeats 2000000 in
set_option maxRecDepth 100000 in
theorem c_X_read_n (l : Launch) (lev : Int32) (hel : Int32) (res : Int32) (sta : Nat → Int32) (bas : Nat → Int32) (obj : Nat → Int32) (nx : Int32) (sa : Int32) (kn : Int32) (vu : Int64) (f : Nat → Int32) (wa : Nat → Int32) (cap : Nat) (keys : Nat → Int64) (dp : Nat → Int32) (ln : Nat → Int32) (mk : Nat → Int32) (pt : Nat → Int32) (sl : Nat → Int32) (top : Int32) (trs : Nat → Int32) (ouf : Nat → Int32) (en : Int32) (ef : Nat → Int32) (gn : Int32) (gf : Nat → Int32) (pl : Nat → Int32) (n no Q e0 : Nat) (t : Nat → Tr) (T : Nat → Nat) (L : Nat) (w : Nat → Nat) (P : Nat → Tr) (F FP : Int32) (O : List Nat) (hx : x_in cap n Q e0 t keys dp ln mk sl f wa pl no ouf T L w P O) (p : Int32) (hp : ¬ isP p) : Con l y_X_read M_X_read 9 200 [.ref 0, .int p] (xH lev hel res F FP sta bas obj nx sa kn vu f wa (nI L) cap keys dp ln mk pt sl (nI n) (nI Q) top trs (nI no) ouf en ef gn gf pl) 1 0 0 0 (fun r h' => r = some (.int (-1)) ∧ x_ok cap n Q T L w P F FP O h') := by
  refine Con.ent ok_X_read (by decide +kernel) rfl ?_
  intro pA eA sA mA argsA belowA methA cA GA μA
  refine aw_go 1 1 [some (.ref 0), some (.int p), none] [.int p] (xH lev hel res F FP sta bas obj nx sa kn vu f wa (nI L) cap keys dp ln mk pt sl (nI n) (nI Q) top trs (nI no) ouf en ef gn gf pl) rfl ?_
  refine aw_cS [] (c_X_isP0 l p hp) rfl cw_X_74 rfl rfl rfl rfl (Nat.le_refl _) (Nat.le_refl _) (fun r h' hp => ?_)
  obtain ⟨rfl, rfl⟩ := hp
  refine aw_go 0 4 [some (.ref 0), some (.int p), none] [.int 0] (xH lev hel res F FP sta bas obj nx sa kn vu f wa (nI L) cap keys dp ln mk pt sl (nI n) (nI Q) top trs (nI no) ouf en ef gn gf pl) rfl ?_
  refine aw_if_eq rfl (fun h4 => ?_) (fun h4 => absurd h4 (by decide))
  refine aw_go 1 25 [some (.ref 0), some (.int p), none] [.int (-1)] (xH lev hel res F FP sta bas obj nx sa kn vu f wa (nI L) cap keys dp ln mk pt sl (nI n) (nI Q) top trs (nI no) ouf en ef gn gf pl) rfl ?_
  exact aw_iret rfl rfl rfl ⟨rfl, x_mk hx⟩ rfl (Nat.le_refl _) (Nat.le_refl _) -- [.int (-1)] (xH lev hel res F FP sta bas obj nx sa kn vu f wa (nI L) cap keys dp ln mk pt sl (nI n) (nI Q) top trs (nI no) ouf en ef gn gf pl)
set_option maxHeartbeats 2000000 in
set_option maxRecDepth 100000 in
theorem c_X_read_y (l : Launch) (lev : Int32) (hel : Int32) (res : Int32) (sta : Nat → Int32) (bas : Nat → Int32) (obj : Nat → Int32) (nx : Int32) (sa : Int32) (kn : Int32) (vu : Int64) (f : Nat → Int32) (wa : Nat → Int32) (cap : Nat) (keys : Nat → Int64) (dp : Nat → Int32) (ln : Nat → Int32) (mk : Nat → Int32) (pt : Nat → Int32) (sl : Nat → Int32) (top : Int32) (trs : Nat → Int32) (ouf : Nat → Int32) (en : Int32) (ef : Nat → Int32) (gn : Int32) (gf : Nat → Int32) (pl : Nat → Int32) (n no Q e0 : Nat) (t : Nat → Tr) (T : Nat → Nat) (L : Nat) (w : Nat → Nat) (P : Nat → Tr) (F FP : Int32) (O : List Nat) (hx : x_in cap n Q e0 t keys dp ln mk sl f wa pl no ouf T L w P O) (j : Nat) (hj : j < 8) (hq : n + 2 * min L 1000 ≤ 16384) : Con l y_X_read M_X_read 9 200 [.ref 0, .int (nI j)] (xH lev hel res F FP sta bas obj nx sa kn vu f wa (nI L) cap keys dp ln mk pt sl (nI n) (nI Q) top trs (nI no) ouf en ef gn gf pl) 1 0 (x_mc cap (n + (2 * min L 1000))) (14 * x_mc cap (n + (2 * min L 1000))) (fun r h' => r = some (.int (nI (ps_rd T L 1001 0 1 [] none).1)) ∧ ∃ cap2 n2, cap2 = max cap (st_room (n + 2 * min L 1000)) ∧ n ≤ n2 ∧ n2 ≤ n + 2 * tx_nz T L ∧ x_ok cap2 n2 Q T 0 w (rd_P P j (ps_rd T L 1001 0 1 [] none)) (nI (ps_rd T L 1001 0 1 [] none).1) (if (ps_rd T L 1001 0 1 [] none).1 = 0 then -1 else nI (ps_rd T L 1001 0 1 [] none).2.1) O h') := by
  have xm := x_mc1 (n + 2 * min L 1000) hx.1.1.1.1
  refine Con.ent ok_X_read (by decide +kernel) rfl ?_
  intro pA eA sA mA argsA belowA methA cA GA μA
  refine aw_go 1 1 [some (.ref 0), some (.int (nI j)), none] [.int (nI j)] (xH lev hel res F FP sta bas obj nx sa kn vu f wa (nI L) cap keys dp ln mk pt sl (nI n) (nI Q) top trs (nI no) ouf en ef gn gf pl) rfl ?_
  refine aw_cS [] (c_X_isP1 l j hj) rfl cw_X_74 rfl rfl rfl rfl (by show _ ≤ x_mc cap (n + (2 * min L 1000)); first | exact Nat.zero_le _ | (simp only [Nat.zero_add, Nat.add_zero]; exact xm.1)) (by show _ ≤ 14 * x_mc cap (n + (2 * min L 1000)); first | exact Nat.zero_le _ | (simp only [Nat.zero_add, Nat.add_zero]; exact xm.2)) (fun r h' hp => ?_)
  obtain ⟨rfl, rfl⟩ := hp
  refine aw_go 0 4 [some (.ref 0), some (.int (nI j)), none] [.int 1] (xH lev hel res F FP sta bas obj nx sa kn vu f wa (nI L) cap keys dp ln mk pt sl (nI n) (nI Q) top trs (nI no) ouf en ef gn gf pl) rfl ?_
  refine aw_if_eq rfl (fun h4 => absurd h4 (by decide)) (fun h4 => ?_)
  refine aw_go 4 15 [some (.ref 0), some (.int (nI j)), none] [.ref 1, .ref 9] (xH lev hel res F FP sta bas obj nx sa kn vu f wa (nI L) cap keys dp ln mk pt sl (nI n) (nI Q) top trs (nI no) ouf en ef gn gf pl) rfl ?_
  refine aw_cV [1, 2, 3, 4, 5, 6, 7, 8, 9, 10, 11, 12, 13, 14, 15] (c_Rd_mostNewObjects l lev hel res F FP nx sa kn (nI n) (nI Q) vu cap keys sta bas obj f wa dp ln mk pt sl L hx.2.2.1.1) rfl cw_X_78 rfl rfl rfl rfl rfl rfl (by show _ ≤ x_mc cap (n + (2 * min L 1000)); first | exact Nat.zero_le _ | (simp only [Nat.zero_add, Nat.add_zero]; exact xm.1)) (by show _ ≤ 14 * x_mc cap (n + (2 * min L 1000)); first | exact Nat.zero_le _ | (simp only [Nat.zero_add, Nat.add_zero]; exact xm.2)) (fun r h' hp => ?_)
  obtain ⟨rfl, rfl⟩ := hp
  refine aw_go 0 18 [some (.ref 0), some (.int (nI j)), none] [.int (nI (2 * min L 1000)), .ref 9] (xH lev hel res F FP sta bas obj nx sa kn vu f wa (nI L) cap keys dp ln mk pt sl (nI n) (nI Q) top trs (nI no) ouf en ef gn gf pl) rfl ?_
  refine aw_cV [9, 10, 11, 12, 13, 14, 15] (c_St_makeRoom l cap n keys dp ln mk pt sl (nI Q) e0 t hx.1 (2 * min L 1000) Q hq hx.2.1) rfl cw_X_82 rfl rfl rfl rfl rfl rfl (by show 0 + _ ≤ x_mc cap (n + (2 * min L 1000)); rw [Nat.zero_add]; exact xm.1) (by show 0 + _ ≤ 14 * x_mc cap (n + (2 * min L 1000)); rw [Nat.zero_add]; exact xm.2) (fun r h' hp => ?_)
  obtain ⟨rfl, cap2, e2, keys2, dp2, ln2, mk2, pt2, sl2, hst2, hcap2, hceq, hmk2, rfl⟩ := hp
  refine aw_go 0 21 [some (.ref 0), some (.int (nI j)), none] [.int 1] (xH lev hel res F FP sta bas obj nx sa kn vu f wa (nI L) cap2 keys2 dp2 ln2 mk2 pt2 sl2 (nI n) (nI Q) top trs (nI no) ouf en ef gn gf pl) rfl ?_
  refine aw_if_ne rfl (fun h21 => ?_) (fun h21 => absurd h21 (by decide))
  refine aw_go 2 30 [some (.ref 0), some (.int (nI j)), none] [.ref 1] (xH lev hel res F FP sta bas obj nx sa kn vu f wa (nI L) cap2 keys2 dp2 ln2 mk2 pt2 sl2 (nI n) (nI Q) top trs (nI no) ouf en ef gn gf pl) rfl ?_
  refine aw_cV [1, 2, 3, 4, 5, 6, 7, 8, 9, 10, 11, 12, 13, 14, 15] (c_Rd_readText l lev hel res F FP nx sa kn (nI Q) vu cap2 keys2 sta bas obj f wa dp2 ln2 mk2 pt2 sl2 L T hx.2.2.1 n e2 t hst2 hcap2) rfl cw_X_85 rfl rfl rfl rfl rfl rfl (by show _ ≤ x_mc cap (n + (2 * min L 1000)); first | exact Nat.zero_le _ | (simp only [Nat.zero_add, Nat.add_zero]; exact xm.1)) (by show _ ≤ 14 * x_mc cap (n + (2 * min L 1000)); first | exact Nat.zero_le _ | (simp only [Nat.zero_add, Nat.add_zero]; exact xm.2)) (fun r h' hp => ?_)
  obtain ⟨lev2, hel2, res2, nx2, sa2, kn2, vu2, sta2, bas2, obj2, n3, keys3, dp3, ln3, sl3, t3, g1, g4, g6, g5, g7, rfl, rfl⟩ := hp
  generalize hPR : (ps_rd T L 1001 0 1 [] none) = PR at g7 ⊢
  obtain ⟨F2, FP2, X2⟩ := PR
  dsimp only at g7 ⊢
  refine aw_go 3 38 [some (.ref 0), some (.int (nI j)), some (.int (nI F2))] [.ref 3] (xH lev2 hel2 res2 (nI F2) (if F2 = 0 then -1 else nI FP2) sta2 bas2 obj2 nx2 sa2 kn2 vu2 f wa (nI L) cap2 keys3 dp3 ln3 mk2 pt2 sl3 (nI n3) (nI Q) top trs (nI no) ouf en ef gn gf pl) rfl ?_
  refine aw_cV [3, 4, 5] (c_Tx_clear l f wa L) rfl cw_X_88 rfl rfl rfl rfl rfl rfl (by show _ ≤ x_mc cap (n + (2 * min L 1000)); first | exact Nat.zero_le _ | (simp only [Nat.zero_add, Nat.add_zero]; exact xm.1)) (by show _ ≤ 14 * x_mc cap (n + (2 * min L 1000)); first | exact Nat.zero_le _ | (simp only [Nat.zero_add, Nat.add_zero]; exact xm.2)) (fun r h' hp => ?_)
  obtain ⟨rfl, rfl⟩ := hp
  refine aw_go 0 41 [some (.ref 0), some (.int (nI j)), some (.int (nI F2))] [] (xH lev2 hel2 res2 (nI F2) (if F2 = 0 then -1 else nI FP2) sta2 bas2 obj2 nx2 sa2 kn2 vu2 f wa (nI 0) cap2 keys3 dp3 ln3 mk2 pt2 sl3 (nI n3) (nI Q) top trs (nI no) ouf en ef gn gf pl) rfl ?_
  have hF : F2 < 2 ^ 31 := by have := ps_rd_f5 T L 1001 0 1 [] none; rw [hPR] at this; dsimp only at this; omega
  refine aw_go 1 42 [some (.ref 0), some (.int (nI j)), some (.int (nI F2))] [.int (nI F2)] (xH lev2 hel2 res2 (nI F2) (if F2 = 0 then -1 else nI FP2) sta2 bas2 obj2 nx2 sa2 kn2 vu2 f wa (nI 0) cap2 keys3 dp3 ln3 mk2 pt2 sl3 (nI n3) (nI Q) top trs (nI no) ouf en ef gn gf pl) rfl ?_
  refine aw_if_ne rfl (fun h42 => ?_) (fun h42 => ?_)
  · refine aw_go 1 59 [some (.ref 0), some (.int (nI j)), some (.int (nI F2))] [.int (nI F2)] (xH lev2 hel2 res2 (nI F2) (if F2 = 0 then -1 else nI FP2) sta2 bas2 obj2 nx2 sa2 kn2 vu2 f wa (nI 0) cap2 keys3 dp3 ln3 mk2 pt2 sl3 (nI n3) (nI Q) top trs (nI no) ouf en ef gn gf pl) rfl ?_
    exact aw_iret rfl rfl rfl (by exact ⟨rfl, cap2, n3, hceq, g4, g5, x_mk ⟨g1, hmk2, ⟨Nat.zero_le _, fun j hj => absurd hj (Nat.not_lt_zero j)⟩, hx.2.2.2.1, by rw [rd_P_n (fun z => h42 (by rw [z]; rfl))]; exact pl_ext hx.2.2.2.2.1 g4 g6, hx.2.2.2.2.2⟩⟩) rfl (by show _ ≤ x_mc cap (n + (2 * min L 1000)); first | exact Nat.zero_le _ | (simp only [Nat.zero_add, Nat.add_zero]; exact xm.1)) (by show _ ≤ 14 * x_mc cap (n + (2 * min L 1000)); first | exact Nat.zero_le _ | (simp only [Nat.zero_add, Nat.add_zero]; exact xm.2)) -- [.int (nI F2)] (xH lev2 hel2 res2 (nI F2) (if F2 = 0 then -1 else nI FP2) sta2 bas2 obj2 nx2 sa2 kn2 vu2 f wa (nI 0) cap2 keys3 dp3 ln3 mk2 pt2 sl3 (nI n3) (nI Q) top trs (nI no) ouf en ef gn gf pl)
  · refine aw_go 5 54 [some (.ref 0), some (.int (nI j)), some (.int (nI F2))] [.ref 1, .int (nI j), .ref 24] (xH lev2 hel2 res2 (nI F2) (if F2 = 0 then -1 else nI FP2) sta2 bas2 obj2 nx2 sa2 kn2 vu2 f wa (nI 0) cap2 keys3 dp3 ln3 mk2 pt2 sl3 (nI n3) (nI Q) top trs (nI no) ouf en ef gn gf pl) rfl ?_
    refine aw_cV [1, 2, 3, 4, 5, 6, 7, 8, 9, 10, 11, 12, 13, 14, 15] (c_Rd_result l lev2 hel2 res2 (nI F2) (if F2 = 0 then -1 else nI FP2) nx2 sa2 kn2 (nI 0) (nI n3) (nI Q) vu2 cap2 keys3 sta2 bas2 obj2 f wa dp3 ln3 mk2 pt2 sl3) rfl cw_X_91 rfl rfl rfl rfl rfl rfl (by show _ ≤ x_mc cap (n + (2 * min L 1000)); first | exact Nat.zero_le _ | (simp only [Nat.zero_add, Nat.add_zero]; exact xm.1)) (by show _ ≤ 14 * x_mc cap (n + (2 * min L 1000)); first | exact Nat.zero_le _ | (simp only [Nat.zero_add, Nat.add_zero]; exact xm.2)) (fun r h' hp => ?_)
    obtain ⟨rfl, rfl⟩ := hp
    refine aw_go 0 57 [some (.ref 0), some (.int (nI j)), some (.int (nI F2))] [.int res2, .int (nI j), .ref 24] (xH lev2 hel2 res2 (nI F2) (if F2 = 0 then -1 else nI FP2) sta2 bas2 obj2 nx2 sa2 kn2 vu2 f wa (nI 0) cap2 keys3 dp3 ln3 mk2 pt2 sl3 (nI n3) (nI Q) top trs (nI no) ouf en ef gn gf pl) rfl ?_
    refine aw_iastN rfl rfl ⟨by omega, by omega⟩ ?_
    refine aw_go 1 59 [some (.ref 0), some (.int (nI j)), some (.int (nI F2))] [.int (nI F2)] (xH lev2 hel2 res2 (nI F2) (if F2 = 0 then -1 else nI FP2) sta2 bas2 obj2 nx2 sa2 kn2 vu2 f wa (nI 0) cap2 keys3 dp3 ln3 mk2 pt2 sl3 (nI n3) (nI Q) top trs (nI no) ouf en ef gn gf (upd pl j res2)) rfl ?_
    exact aw_iret rfl rfl rfl (by exact ⟨rfl, cap2, n3, hceq, g4, g5, x_mk ⟨g1, hmk2, ⟨Nat.zero_le _, fun j hj => absurd hj (Nat.not_lt_zero j)⟩, hx.2.2.2.1, by obtain ⟨i3, hi3, rfl, q3⟩ := g7 (rd_z hF h42); rw [rd_P_y (rd_z hF h42) q3]; exact pl_up (pl_ext hx.2.2.2.2.1 g4 g6) ⟨i3, hi3, rfl, rfl⟩, hx.2.2.2.2.2⟩⟩) rfl (by show _ ≤ x_mc cap (n + (2 * min L 1000)); first | exact Nat.zero_le _ | (simp only [Nat.zero_add, Nat.add_zero]; exact xm.1)) (by show _ ≤ 14 * x_mc cap (n + (2 * min L 1000)); first | exact Nat.zero_le _ | (simp only [Nat.zero_add, Nat.add_zero]; exact xm.2)) -- [.int (nI F2)] (xH lev2 hel2 res2 (nI F2) (if F2 = 0 then -1 else nI FP2) sta2 bas2 obj2 nx2 sa2 kn2 vu2 f wa (nI 0) cap2 keys3 dp3 ln3 mk2 pt2 sl3 (nI n3) (nI Q) top trs (nI no) ouf en ef gn gf (upd pl j res2))
