/-! the class's methods that make no object -/
def fdA (a b c d e : Int32) : Nat → Int32 := upd (upd (upd (upd (upd (fun _ => 0) 0 a) 1 b) 2 c) 3 d) 4 e
theorem fd_eq (wa : Nat → Int32) {a b c d e : Int32} {k : Nat} (hk : k < 20) : x_wb (upd (upd (upd (upd (upd wa 0 a) 1 b) 2 c) 3 d) 4 e) k = x_wb (fdA a b c d e) k := by
  unfold x_wb fdA
  rcases (show k / 4 = 0 ∨ k / 4 = 1 ∨ k / 4 = 2 ∨ k / 4 = 3 ∨ k / 4 = 4 by omega) with h | h | h | h | h <;> rw [h] <;> rfl
theorem wb_fl (wa : Nat → Int32) {k : Nat} (hk : k < 20) : x_wb (ar_fl 5 wa 0) k = 0 := by
  unfold x_wb
  rw [show ar_fl 5 wa 0 (k / 4) = 0 from if_pos (by omega), show ((0 : Int32).toBitVec.toNat) = 0 from rfl, Nat.zero_div]
/-- a text and what comes behind it -/
def tx_ap (T : Nat → Nat) (L : Nat) (w : Nat → Nat) : Nat → Nat := fun j => if j < L then T j else w (j - L)
theorem tx_T.app {f f2 wa : Nat → Int32} {T w : Nat → Nat} {L q : Nat} (h : tx_T f T L) (hw : ∀ k, k < 20 → x_wb wa k = w k) (hq : q ≤ 20 ∧ L + q ≤ 3000) (h4 : ∀ j, j < L → f2 j = f j) (h5 : ∀ j, j < q → f2 (L + j) = nI (x_wb wa j)) : tx_T f2 (tx_ap T L w) (L + q) := by
  refine ⟨hq.2, fun j hj => ?_⟩
  unfold tx_ap
  by_cases z : j < L
  · rw [if_pos z, h4 j z]
    exact h.2 j z
  · have h6 := h5 (j - L) (by omega)
    rw [show L + (j - L) = j by omega] at h6
    rw [if_neg z, h6, ← hw (j - L) (by omega)]
    exact ⟨x_wb_lt _ _, rfl⟩
/-- a character of the told text, -1 elsewhere -/
def ltI (O : List Nat) (x : Int32) : Int32 := if x < 0 then -1 else if nI (min O.length 2000) ≤ x then -1 else nI (O.getD x.toNatClampNeg 0)
theorem ltI_eq {no : Nat} {ouf : Nat → Int32} {O : List Nat} {x : Int32} (h : sh_R 2000 no ouf O) : (if x < 0 then -1 else if nI no ≤ x then -1 else ouf x.toNatClampNeg) = ltI O x := by
  unfold ltI
  rw [← h.1]
  by_cases q : x < 0
  · rw [if_pos q, if_pos q]
  · rw [if_neg q, if_neg q]
    obtain ⟨j, hj, rfl⟩ := nI_of q
    by_cases z : nI no ≤ nI j
    · rw [if_pos z, if_pos z]
    · rw [if_neg z, if_neg z, nI_clamp hj]
      exact h.2 j (Nat.not_le.mp fun y => z (nI_le y hj))
theorem tr_kd_lt (T : Tr) : tr_kd T < 3 := by
  cases T with
  | var c => simp only [tr_kd]; omega
  | op a b => simp only [tr_kd]; omega
theorem pl_up {n : Nat} {t : Nat → Tr} {pl : Nat → Int32} {P : Nat → Tr} {m : Nat} {x : Int32} {X : Tr} (h : ∀ j, j < 8 → ∃ i, i < n ∧ pl j = nI i ∧ t i = P j) (hX : ∃ i, i < n ∧ x = nI i ∧ t i = X) : ∀ j, j < 8 → ∃ i, i < n ∧ upd pl m x j = nI i ∧ t i = va_up P m X j := by
  intro j hj
  by_cases q : j = m
  · subst q
    rw [pk_us, va_up_self]
    exact hX
  · rw [pk_un q, va_up_ne _ _ q]
    exact h j hj
theorem sd_w {x : Int32} (h0 : x ≠ 0) (h1 : x ≠ 1) (h : ¬ x < 0) : 1 < x := by
  obtain ⟨j, hj, rfl⟩ := nI_of h
  have a : j ≠ 0 := fun z => h0 (by rw [z]; rfl)
  have b : j ≠ 1 := fun z => h1 (by rw [z]; rfl)
  exact nI_lt (a := 1) (by omega) hj
set_option maxHeartbeats 2000000 in
set_option maxRecDepth 100000 in
theorem c_X_feed (l : Launch) (lev : Int32) (hel : Int32) (res : Int32) (sta : Nat → Int32) (bas : Nat → Int32) (obj : Nat → Int32) (nx : Int32) (sa : Int32) (kn : Int32) (vu : Int64) (f : Nat → Int32) (wa : Nat → Int32) (cap : Nat) (keys : Nat → Int64) (dp : Nat → Int32) (ln : Nat → Int32) (mk : Nat → Int32) (pt : Nat → Int32) (sl : Nat → Int32) (top : Int32) (trs : Nat → Int32) (ouf : Nat → Int32) (en : Int32) (ef : Nat → Int32) (gn : Int32) (gf : Nat → Int32) (pl : Nat → Int32) (n no Q e0 : Nat) (t : Nat → Tr) (T : Nat → Nat) (L : Nat) (w : Nat → Nat) (P : Nat → Tr) (F FP : Int32) (O : List Nat) (hx : x_in cap n Q e0 t keys dp ln mk sl f wa pl no ouf T L w P O) (a b c d e : Int32) : Con l y_X_feed M_X_feed 1 25 [.ref 0, .int a, .int b, .int c, .int d, .int e] (xH lev hel res F FP sta bas obj nx sa kn vu f wa (nI L) cap keys dp ln mk pt sl (nI n) (nI Q) top trs (nI no) ouf en ef gn gf pl) 1 0 0 0 (fun r h' => r = none ∧ x_ok cap n Q T L (x_wb (fdA a b c d e)) P F FP O h') := by
  refine Con.ent ok_X_feed (by decide +kernel) rfl ?_
  intro pA eA sA mA argsA belowA methA cA GA μA
  refine aw_go 7 11 [some (.ref 0), some (.int a), some (.int b), some (.int c), some (.int d), some (.int e)] [.int e, .int d, .int c, .int b, .int a, .ref 3] (xH lev hel res F FP sta bas obj nx sa kn vu f wa (nI L) cap keys dp ln mk pt sl (nI n) (nI Q) top trs (nI no) ouf en ef gn gf pl) rfl ?_
  refine aw_cV [3, 4, 5] (c_Tx_await l f wa L a b c d e) rfl cw_X_66 rfl rfl rfl rfl rfl rfl (Nat.le_refl _) (Nat.le_refl _) (fun r h' hp => ?_)
  obtain ⟨rfl, rfl⟩ := hp
  refine aw_go 0 14 [some (.ref 0), some (.int a), some (.int b), some (.int c), some (.int d), some (.int e)] [] (xH lev hel res F FP sta bas obj nx sa kn vu f (upd (upd (upd (upd (upd wa 0 a) 1 b) 2 c) 3 d) 4 e) (nI L) cap keys dp ln mk pt sl (nI n) (nI Q) top trs (nI no) ouf en ef gn gf pl) rfl ?_
  exact aw_vret rfl rfl ⟨rfl, x_mk ⟨hx.1, hx.2.1, hx.2.2.1, fun k hk => fd_eq wa hk, hx.2.2.2.2.1, hx.2.2.2.2.2⟩⟩ rfl (Nat.le_refl _) (Nat.le_refl _) -- [] (xH lev hel res F FP sta bas obj nx sa kn vu f (upd (upd (upd (upd (upd wa 0 a) 1 b) 2 c) 3 d) 4 e) (nI L) cap keys dp ln mk pt sl (nI n) (nI Q) top trs (nI no) ouf en ef gn gf pl)
set_option maxHeartbeats 2000000 in
set_option maxRecDepth 100000 in
theorem c_X_end_y (l : Launch) (lev : Int32) (hel : Int32) (res : Int32) (sta : Nat → Int32) (bas : Nat → Int32) (obj : Nat → Int32) (nx : Int32) (sa : Int32) (kn : Int32) (vu : Int64) (f : Nat → Int32) (wa : Nat → Int32) (cap : Nat) (keys : Nat → Int64) (dp : Nat → Int32) (ln : Nat → Int32) (mk : Nat → Int32) (pt : Nat → Int32) (sl : Nat → Int32) (top : Int32) (trs : Nat → Int32) (ouf : Nat → Int32) (en : Int32) (ef : Nat → Int32) (gn : Int32) (gf : Nat → Int32) (pl : Nat → Int32) (n no Q e0 : Nat) (t : Nat → Tr) (T : Nat → Nat) (L : Nat) (w : Nat → Nat) (P : Nat → Tr) (F FP : Int32) (O : List Nat) (hx : x_in cap n Q e0 t keys dp ln mk sl f wa pl no ouf T L w P O) (q : Nat) (hq : q ≤ 20 ∧ L + q ≤ 3000) : Con l y_X_end M_X_end 2 45 [.ref 0, .int (nI q)] (xH lev hel res F FP sta bas obj nx sa kn vu f wa (nI L) cap keys dp ln mk pt sl (nI n) (nI Q) top trs (nI no) ouf en ef gn gf pl) 1 0 0 0 (fun r h' => r = some (.int (nI (L + q))) ∧ x_ok cap n Q (tx_ap T L w) (L + q) (fun _ => 0) P F FP O h') := by
  refine Con.ent ok_X_end (by decide +kernel) rfl ?_
  intro pA eA sA mA argsA belowA methA cA GA μA
  refine aw_go 3 5 [some (.ref 0), some (.int (nI q))] [.int (nI q), .ref 3] (xH lev hel res F FP sta bas obj nx sa kn vu f wa (nI L) cap keys dp ln mk pt sl (nI n) (nI Q) top trs (nI no) ouf en ef gn gf pl) rfl ?_
  refine aw_cV [3, 4, 5] (c_Tx_append l f wa L (nI q) hx.2.2.1.1) rfl cw_X_70 rfl rfl rfl rfl rfl rfl (Nat.le_refl _) (Nat.le_refl _) (fun r h' hp => ?_)
  have hp0 := hp
  rcases hp0 with ⟨hno, -⟩ | ⟨q2, f2, h1, h2, h3, rfl, h4, h5, rfl⟩
  · exact absurd ⟨q, hq.1, hq.2, rfl⟩ hno
  obtain rfl := nI_inj (by omega) (by omega) h3
  refine aw_go 0 8 [some (.ref 0), some (.int (nI q))] [.int (nI (L + q))] (xH lev hel res F FP sta bas obj nx sa kn vu f2 (ar_fl 5 wa 0) (nI (L + q)) cap keys dp ln mk pt sl (nI n) (nI Q) top trs (nI no) ouf en ef gn gf pl) rfl ?_
  exact aw_iret rfl rfl rfl ⟨rfl, x_mk ⟨hx.1, hx.2.1, hx.2.2.1.app hx.2.2.2.1 hq h4 h5, fun k hk => wb_fl wa hk, hx.2.2.2.2.1, hx.2.2.2.2.2⟩⟩ rfl (Nat.le_refl _) (Nat.le_refl _) -- [.int (nI (L + q))] (xH lev hel res F FP sta bas obj nx sa kn vu f2 (ar_fl 5 wa 0) (nI (L + q)) cap keys dp ln mk pt sl (nI n) (nI Q) top trs (nI no) ouf en ef gn gf pl)
set_option maxHeartbeats 2000000 in
set_option maxRecDepth 100000 in
theorem c_X_end_n (l : Launch) (lev : Int32) (hel : Int32) (res : Int32) (sta : Nat → Int32) (bas : Nat → Int32) (obj : Nat → Int32) (nx : Int32) (sa : Int32) (kn : Int32) (vu : Int64) (f : Nat → Int32) (wa : Nat → Int32) (cap : Nat) (keys : Nat → Int64) (dp : Nat → Int32) (ln : Nat → Int32) (mk : Nat → Int32) (pt : Nat → Int32) (sl : Nat → Int32) (top : Int32) (trs : Nat → Int32) (ouf : Nat → Int32) (en : Int32) (ef : Nat → Int32) (gn : Int32) (gf : Nat → Int32) (pl : Nat → Int32) (n no Q e0 : Nat) (t : Nat → Tr) (T : Nat → Nat) (L : Nat) (w : Nat → Nat) (P : Nat → Tr) (F FP : Int32) (O : List Nat) (hx : x_in cap n Q e0 t keys dp ln mk sl f wa pl no ouf T L w P O) (x : Int32) (hno : ¬ ∃ q, q ≤ 20 ∧ L + q ≤ 3000 ∧ x = nI q) : Con l y_X_end M_X_end 2 45 [.ref 0, .int x] (xH lev hel res F FP sta bas obj nx sa kn vu f wa (nI L) cap keys dp ln mk pt sl (nI n) (nI Q) top trs (nI no) ouf en ef gn gf pl) 1 0 0 0 (fun r h' => r = some (.int (-1)) ∧ x_ok cap n Q T L w P F FP O h') := by
  refine Con.ent ok_X_end (by decide +kernel) rfl ?_
  intro pA eA sA mA argsA belowA methA cA GA μA
  refine aw_go 3 5 [some (.ref 0), some (.int x)] [.int x, .ref 3] (xH lev hel res F FP sta bas obj nx sa kn vu f wa (nI L) cap keys dp ln mk pt sl (nI n) (nI Q) top trs (nI no) ouf en ef gn gf pl) rfl ?_
  refine aw_cV [3, 4, 5] (c_Tx_append l f wa L x hx.2.2.1.1) rfl cw_X_70 rfl rfl rfl rfl rfl rfl (Nat.le_refl _) (Nat.le_refl _) (fun r h' hp => ?_)
  have hp0 := hp
  rcases hp0 with ⟨-, rfl, rfl⟩ | ⟨q2, f2, h1, h2, h3, -⟩
  rotate_left
  · exact absurd ⟨q2, h1, h2, h3⟩ hno
  refine aw_go 0 8 [some (.ref 0), some (.int x)] [.int (-1)] (xH lev hel res F FP sta bas obj nx sa kn vu f wa (nI L) cap keys dp ln mk pt sl (nI n) (nI Q) top trs (nI no) ouf en ef gn gf pl) rfl ?_
  exact aw_iret rfl rfl rfl ⟨rfl, x_mk hx⟩ rfl (Nat.le_refl _) (Nat.le_refl _) -- [.int (-1)] (xH lev hel res F FP sta bas obj nx sa kn vu f wa (nI L) cap keys dp ln mk pt sl (nI n) (nI Q) top trs (nI no) ouf en ef gn gf pl)
set_option maxHeartbeats 2000000 in
set_option maxRecDepth 100000 in
theorem c_X_fault_0 (l : Launch) (lev : Int32) (hel : Int32) (res : Int32) (sta : Nat → Int32) (bas : Nat → Int32) (obj : Nat → Int32) (nx : Int32) (sa : Int32) (kn : Int32) (vu : Int64) (f : Nat → Int32) (wa : Nat → Int32) (cap : Nat) (keys : Nat → Int64) (dp : Nat → Int32) (ln : Nat → Int32) (mk : Nat → Int32) (pt : Nat → Int32) (sl : Nat → Int32) (top : Int32) (trs : Nat → Int32) (ouf : Nat → Int32) (en : Int32) (ef : Nat → Int32) (gn : Int32) (gf : Nat → Int32) (pl : Nat → Int32) (n no Q e0 : Nat) (t : Nat → Tr) (T : Nat → Nat) (L : Nat) (w : Nat → Nat) (P : Nat → Tr) (F FP : Int32) (O : List Nat) (hx : x_in cap n Q e0 t keys dp ln mk sl f wa pl no ouf T L w P O) : Con l y_X_fault M_X_fault 1 20 [.ref 0, .int 0] (xH lev hel res F FP sta bas obj nx sa kn vu f wa (nI L) cap keys dp ln mk pt sl (nI n) (nI Q) top trs (nI no) ouf en ef gn gf pl) 1 0 0 0 (fun r h' => r = some (.int F) ∧ x_ok cap n Q T L w P F FP O h') := by
  refine Con.ent ok_X_fault (by decide +kernel) rfl ?_
  intro pA eA sA mA argsA belowA methA cA GA μA
  refine aw_go 1 1 [some (.ref 0), some (.int 0)] [.int 0] (xH lev hel res F FP sta bas obj nx sa kn vu f wa (nI L) cap keys dp ln mk pt sl (nI n) (nI Q) top trs (nI no) ouf en ef gn gf pl) rfl ?_
  refine aw_lookK 0 27 28 rfl rfl (by decide) ?_
  refine aw_go 2 32 [some (.ref 0), some (.int 0)] [.ref 1] (xH lev hel res F FP sta bas obj nx sa kn vu f wa (nI L) cap keys dp ln mk pt sl (nI n) (nI Q) top trs (nI no) ouf en ef gn gf pl) rfl ?_
  refine aw_cV [1, 2, 3, 4, 5, 6, 7, 8, 9, 10, 11, 12, 13, 14, 15] (c_Rd_latestFault l lev hel res F FP nx sa kn (nI L) (nI n) (nI Q) vu cap keys sta bas obj f wa dp ln mk pt sl) rfl cw_X_94 rfl rfl rfl rfl rfl rfl (Nat.le_refl _) (Nat.le_refl _) (fun r h' hp => ?_)
  obtain ⟨rfl, rfl⟩ := hp
  refine aw_go 0 35 [some (.ref 0), some (.int 0)] [.int F] (xH lev hel res F FP sta bas obj nx sa kn vu f wa (nI L) cap keys dp ln mk pt sl (nI n) (nI Q) top trs (nI no) ouf en ef gn gf pl) rfl ?_
  exact aw_iret rfl rfl rfl ⟨rfl, x_mk hx⟩ rfl (Nat.le_refl _) (Nat.le_refl _) -- [.int F] (xH lev hel res F FP sta bas obj nx sa kn vu f wa (nI L) cap keys dp ln mk pt sl (nI n) (nI Q) top trs (nI no) ouf en ef gn gf pl)
set_option maxHeartbeats 2000000 in
set_option maxRecDepth 100000 in
theorem c_X_fault_1 (l : Launch) (lev : Int32) (hel : Int32) (res : Int32) (sta : Nat → Int32) (bas : Nat → Int32) (obj : Nat → Int32) (nx : Int32) (sa : Int32) (kn : Int32) (vu : Int64) (f : Nat → Int32) (wa : Nat → Int32) (cap : Nat) (keys : Nat → Int64) (dp : Nat → Int32) (ln : Nat → Int32) (mk : Nat → Int32) (pt : Nat → Int32) (sl : Nat → Int32) (top : Int32) (trs : Nat → Int32) (ouf : Nat → Int32) (en : Int32) (ef : Nat → Int32) (gn : Int32) (gf : Nat → Int32) (pl : Nat → Int32) (n no Q e0 : Nat) (t : Nat → Tr) (T : Nat → Nat) (L : Nat) (w : Nat → Nat) (P : Nat → Tr) (F FP : Int32) (O : List Nat) (hx : x_in cap n Q e0 t keys dp ln mk sl f wa pl no ouf T L w P O) : Con l y_X_fault M_X_fault 1 20 [.ref 0, .int 1] (xH lev hel res F FP sta bas obj nx sa kn vu f wa (nI L) cap keys dp ln mk pt sl (nI n) (nI Q) top trs (nI no) ouf en ef gn gf pl) 1 0 0 0 (fun r h' => r = some (.int FP) ∧ x_ok cap n Q T L w P F FP O h') := by
  refine Con.ent ok_X_fault (by decide +kernel) rfl ?_
  intro pA eA sA mA argsA belowA methA cA GA μA
  refine aw_go 1 1 [some (.ref 0), some (.int 1)] [.int 1] (xH lev hel res F FP sta bas obj nx sa kn vu f wa (nI L) cap keys dp ln mk pt sl (nI n) (nI Q) top trs (nI no) ouf en ef gn gf pl) rfl ?_
  refine aw_lookK 1 35 36 rfl rfl (by decide) ?_
  refine aw_go 2 40 [some (.ref 0), some (.int 1)] [.ref 1] (xH lev hel res F FP sta bas obj nx sa kn vu f wa (nI L) cap keys dp ln mk pt sl (nI n) (nI Q) top trs (nI no) ouf en ef gn gf pl) rfl ?_
  refine aw_cV [1, 2, 3, 4, 5, 6, 7, 8, 9, 10, 11, 12, 13, 14, 15] (c_Rd_latestFaultPlace l lev hel res F FP nx sa kn (nI L) (nI n) (nI Q) vu cap keys sta bas obj f wa dp ln mk pt sl) rfl cw_X_97 rfl rfl rfl rfl rfl rfl (Nat.le_refl _) (Nat.le_refl _) (fun r h' hp => ?_)
  obtain ⟨rfl, rfl⟩ := hp
  refine aw_go 0 43 [some (.ref 0), some (.int 1)] [.int FP] (xH lev hel res F FP sta bas obj nx sa kn vu f wa (nI L) cap keys dp ln mk pt sl (nI n) (nI Q) top trs (nI no) ouf en ef gn gf pl) rfl ?_
  exact aw_iret rfl rfl rfl ⟨rfl, x_mk hx⟩ rfl (Nat.le_refl _) (Nat.le_refl _) -- [.int FP] (xH lev hel res F FP sta bas obj nx sa kn vu f wa (nI L) cap keys dp ln mk pt sl (nI n) (nI Q) top trs (nI no) ouf en ef gn gf pl)
set_option maxHeartbeats 2000000 in
set_option maxRecDepth 100000 in
theorem c_X_fault_n (l : Launch) (lev : Int32) (hel : Int32) (res : Int32) (sta : Nat → Int32) (bas : Nat → Int32) (obj : Nat → Int32) (nx : Int32) (sa : Int32) (kn : Int32) (vu : Int64) (f : Nat → Int32) (wa : Nat → Int32) (cap : Nat) (keys : Nat → Int64) (dp : Nat → Int32) (ln : Nat → Int32) (mk : Nat → Int32) (pt : Nat → Int32) (sl : Nat → Int32) (top : Int32) (trs : Nat → Int32) (ouf : Nat → Int32) (en : Int32) (ef : Nat → Int32) (gn : Int32) (gf : Nat → Int32) (pl : Nat → Int32) (n no Q e0 : Nat) (t : Nat → Tr) (T : Nat → Nat) (L : Nat) (w : Nat → Nat) (P : Nat → Tr) (F FP : Int32) (O : List Nat) (hx : x_in cap n Q e0 t keys dp ln mk sl f wa pl no ouf T L w P O) (x : Int32) (h0 : x ≠ 0) (h1 : x ≠ 1) : Con l y_X_fault M_X_fault 1 20 [.ref 0, .int x] (xH lev hel res F FP sta bas obj nx sa kn vu f wa (nI L) cap keys dp ln mk pt sl (nI n) (nI Q) top trs (nI no) ouf en ef gn gf pl) 1 0 0 0 (fun r h' => r = some (.int (-1)) ∧ x_ok cap n Q T L w P F FP O h') := by
  refine Con.ent ok_X_fault (by decide +kernel) rfl ?_
  intro pA eA sA mA argsA belowA methA cA GA μA
  refine aw_go 1 1 [some (.ref 0), some (.int x)] [.int x] (xH lev hel res F FP sta bas obj nx sa kn vu f wa (nI L) cap keys dp ln mk pt sl (nI n) (nI Q) top trs (nI no) ouf en ef gn gf pl) rfl ?_
  by_cases hz1_0 : x = 0
  · refine aw_lookK 0 27 28 hz1_0 rfl (by decide) ?_
    refine aw_go 2 32 [some (.ref 0), some (.int x)] [.ref 1] (xH lev hel res F FP sta bas obj nx sa kn vu f wa (nI L) cap keys dp ln mk pt sl (nI n) (nI Q) top trs (nI no) ouf en ef gn gf pl) rfl ?_
    refine aw_cV [1, 2, 3, 4, 5, 6, 7, 8, 9, 10, 11, 12, 13, 14, 15] (c_Rd_latestFault l lev hel res F FP nx sa kn (nI L) (nI n) (nI Q) vu cap keys sta bas obj f wa dp ln mk pt sl) rfl cw_X_94 rfl rfl rfl rfl rfl rfl (Nat.le_refl _) (Nat.le_refl _) (fun r h' hp => ?_)
    obtain ⟨rfl, rfl⟩ := hp
    refine aw_go 0 35 [some (.ref 0), some (.int x)] [.int F] (xH lev hel res F FP sta bas obj nx sa kn vu f wa (nI L) cap keys dp ln mk pt sl (nI n) (nI Q) top trs (nI no) ouf en ef gn gf pl) rfl ?_
    exact aw_iret rfl rfl rfl (absurd hz1_0 h0) rfl (Nat.le_refl _) (Nat.le_refl _) -- [.int F] (xH lev hel res F FP sta bas obj nx sa kn vu f wa (nI L) cap keys dp ln mk pt sl (nI n) (nI Q) top trs (nI no) ouf en ef gn gf pl)
  by_cases hz1_1 : x = 1
  · refine aw_lookK 1 35 36 hz1_1 rfl (by decide) ?_
    refine aw_go 2 40 [some (.ref 0), some (.int x)] [.ref 1] (xH lev hel res F FP sta bas obj nx sa kn vu f wa (nI L) cap keys dp ln mk pt sl (nI n) (nI Q) top trs (nI no) ouf en ef gn gf pl) rfl ?_
    refine aw_cV [1, 2, 3, 4, 5, 6, 7, 8, 9, 10, 11, 12, 13, 14, 15] (c_Rd_latestFaultPlace l lev hel res F FP nx sa kn (nI L) (nI n) (nI Q) vu cap keys sta bas obj f wa dp ln mk pt sl) rfl cw_X_97 rfl rfl rfl rfl rfl rfl (Nat.le_refl _) (Nat.le_refl _) (fun r h' hp => ?_)
    obtain ⟨rfl, rfl⟩ := hp
    refine aw_go 0 43 [some (.ref 0), some (.int x)] [.int FP] (xH lev hel res F FP sta bas obj nx sa kn vu f wa (nI L) cap keys dp ln mk pt sl (nI n) (nI Q) top trs (nI no) ouf en ef gn gf pl) rfl ?_
    exact aw_iret rfl rfl rfl (absurd hz1_1 h1) rfl (Nat.le_refl _) (Nat.le_refl _) -- [.int FP] (xH lev hel res F FP sta bas obj nx sa kn vu f wa (nI L) cap keys dp ln mk pt sl (nI n) (nI Q) top trs (nI no) ouf en ef gn gf pl)
  refine aw_lookD 44 rfl (by decide) (by show Op.lookupswitch.offset [(0, 27), (1, 35)] 43 _ = _; rw [lv_osw hz1_0 (by decide)]; rw [lv_osw hz1_1 (by decide)]; rfl) (by decide) ?_
  refine aw_go 1 45 [some (.ref 0), some (.int x)] [.int (-1)] (xH lev hel res F FP sta bas obj nx sa kn vu f wa (nI L) cap keys dp ln mk pt sl (nI n) (nI Q) top trs (nI no) ouf en ef gn gf pl) rfl ?_
  exact aw_iret rfl rfl rfl ⟨rfl, x_mk hx⟩ rfl (Nat.le_refl _) (Nat.le_refl _) -- [.int (-1)] (xH lev hel res F FP sta bas obj nx sa kn vu f wa (nI L) cap keys dp ln mk pt sl (nI n) (nI Q) top trs (nI no) ouf en ef gn gf pl)
set_option maxHeartbeats 2000000 in
set_option maxRecDepth 100000 in
theorem c_X_letter (l : Launch) (lev : Int32) (hel : Int32) (res : Int32) (sta : Nat → Int32) (bas : Nat → Int32) (obj : Nat → Int32) (nx : Int32) (sa : Int32) (kn : Int32) (vu : Int64) (f : Nat → Int32) (wa : Nat → Int32) (cap : Nat) (keys : Nat → Int64) (dp : Nat → Int32) (ln : Nat → Int32) (mk : Nat → Int32) (pt : Nat → Int32) (sl : Nat → Int32) (top : Int32) (trs : Nat → Int32) (ouf : Nat → Int32) (en : Int32) (ef : Nat → Int32) (gn : Int32) (gf : Nat → Int32) (pl : Nat → Int32) (n no Q e0 : Nat) (t : Nat → Tr) (T : Nat → Nat) (L : Nat) (w : Nat → Nat) (P : Nat → Tr) (F FP : Int32) (O : List Nat) (hx : x_in cap n Q e0 t keys dp ln mk sl f wa pl no ouf T L w P O) (x : Int32) : Con l y_X_letter M_X_letter 1 21 [.ref 0, .int x] (xH lev hel res F FP sta bas obj nx sa kn vu f wa (nI L) cap keys dp ln mk pt sl (nI n) (nI Q) top trs (nI no) ouf en ef gn gf pl) 1 0 0 0 (fun r h' => r = some (.int (ltI O x)) ∧ x_ok cap n Q T L w P F FP O h') := by
  refine Con.ent ok_X_letter (by decide +kernel) rfl ?_
  intro pA eA sA mA argsA belowA methA cA GA μA
  refine aw_go 3 5 [some (.ref 0), some (.int x)] [.int x, .ref 18] (xH lev hel res F FP sta bas obj nx sa kn vu f wa (nI L) cap keys dp ln mk pt sl (nI n) (nI Q) top trs (nI no) ouf en ef gn gf pl) rfl ?_
  refine aw_cV [18, 19] (c_Sh_signAt l 2000 no ouf x (by omega) (by have := hx.2.2.2.2.2.1; omega)) rfl cw_X_107 rfl rfl rfl rfl rfl rfl (Nat.le_refl _) (Nat.le_refl _) (fun r h' hp => ?_)
  obtain ⟨rfl, rfl⟩ := hp
  refine aw_go 0 8 [some (.ref 0), some (.int x)] [.int (if x < 0 then -1 else if nI no ≤ x then -1 else ouf x.toNatClampNeg)] (xH lev hel res F FP sta bas obj nx sa kn vu f wa (nI L) cap keys dp ln mk pt sl (nI n) (nI Q) top trs (nI no) ouf en ef gn gf pl) rfl ?_
  exact aw_iret rfl rfl rfl ⟨by rw [ltI_eq hx.2.2.2.2.2], x_mk hx⟩ rfl (Nat.le_refl _) (Nat.le_refl _) -- [.int (if x < 0 then -1 else if nI no ≤ x then -1 else ouf x.toNatClampNeg)] (xH lev hel res F FP sta bas obj nx sa kn vu f wa (nI L) cap keys dp ln mk pt sl (nI n) (nI Q) top trs (nI no) ouf en ef gn gf pl)
set_option maxHeartbeats 2000000 in
set_option maxRecDepth 100000 in
theorem c_X_tell_y (l : Launch) (lev : Int32) (hel : Int32) (res : Int32) (sta : Nat → Int32) (bas : Nat → Int32) (obj : Nat → Int32) (nx : Int32) (sa : Int32) (kn : Int32) (vu : Int64) (f : Nat → Int32) (wa : Nat → Int32) (cap : Nat) (keys : Nat → Int64) (dp : Nat → Int32) (ln : Nat → Int32) (mk : Nat → Int32) (pt : Nat → Int32) (sl : Nat → Int32) (top : Int32) (trs : Nat → Int32) (ouf : Nat → Int32) (en : Int32) (ef : Nat → Int32) (gn : Int32) (gf : Nat → Int32) (pl : Nat → Int32) (n no Q e0 : Nat) (t : Nat → Tr) (T : Nat → Nat) (L : Nat) (w : Nat → Nat) (P : Nat → Tr) (F FP : Int32) (O : List Nat) (hx : x_in cap n Q e0 t keys dp ln mk sl f wa pl no ouf T L w P O) (j : Nat) (hj : j < 8) : Con l y_X_tell M_X_tell 9 202 [.ref 0, .int (nI j)] (xH lev hel res F FP sta bas obj nx sa kn vu f wa (nI L) cap keys dp ln mk pt sl (nI n) (nI Q) top trs (nI no) ouf en ef gn gf pl) 1 0 0 0 (fun r h' => r = some (.int (nI (min (tlb (P j) false).length 2000))) ∧ x_ok cap n Q T L w P F FP (tlb (P j) false) h') := by
  refine Con.ent ok_X_tell (by decide +kernel) rfl ?_
  intro pA eA sA mA argsA belowA methA cA GA μA
  refine aw_go 1 1 [some (.ref 0), some (.int (nI j))] [.int (nI j)] (xH lev hel res F FP sta bas obj nx sa kn vu f wa (nI L) cap keys dp ln mk pt sl (nI n) (nI Q) top trs (nI no) ouf en ef gn gf pl) rfl ?_
  refine aw_cS [] (c_X_isP1 l j hj) rfl cw_X_74 rfl rfl rfl rfl (Nat.le_refl _) (Nat.le_refl _) (fun r h' hp => ?_)
  obtain ⟨rfl, rfl⟩ := hp
  refine aw_go 0 4 [some (.ref 0), some (.int (nI j))] [.int 1] (xH lev hel res F FP sta bas obj nx sa kn vu f wa (nI L) cap keys dp ln mk pt sl (nI n) (nI Q) top trs (nI no) ouf en ef gn gf pl) rfl ?_
  refine aw_if_ne rfl (fun h4 => ?_) (fun h4 => absurd h4 (by decide))
  refine aw_go 7 22 [some (.ref 0), some (.int (nI j))] [.int (nI j), .ref 24, .ref 18, .ref 16] (xH lev hel res F FP sta bas obj nx sa kn vu f wa (nI L) cap keys dp ln mk pt sl (nI n) (nI Q) top trs (nI no) ouf en ef gn gf pl) rfl ?_
  refine aw_ialdN rfl rfl ⟨by omega, by omega⟩ ?_
  obtain ⟨i, hi, hpl_i, ht_i⟩ := hx.2.2.2.2.1 j hj
  rw [hpl_i]
  refine aw_cV [16, 17, 18, 19, 9, 10, 11, 12, 13, 14, 15] (c_Te_tellOn l cap n keys dp ln mk pt sl (nI Q) e0 t hx.1 2000 (nI no) ouf (by omega) top trs i hi) rfl cw_X_100 rfl rfl rfl rfl rfl rfl (Nat.le_refl _) (Nat.le_refl _) (fun r h' hp => ?_)
  obtain ⟨rfl, op23, rs23, n23, f23, hsh23, rfl⟩ := hp
  rw [ht_i] at hsh23
  refine aw_go 2 30 [some (.ref 0), some (.int (nI j))] [.ref 18] (xH lev hel res F FP sta bas obj nx sa kn vu f wa (nI L) cap keys dp ln mk pt sl (nI n) (nI Q) op23 rs23 (nI n23) f23 en ef gn gf pl) rfl ?_
  refine aw_cV [18, 19] (c_Sh_length l 2000 (nI n23) f23) rfl cw_X_104 rfl rfl rfl rfl rfl rfl (Nat.le_refl _) (Nat.le_refl _) (fun r h' hp => ?_)
  obtain ⟨rfl, rfl⟩ := hp
  refine aw_go 0 33 [some (.ref 0), some (.int (nI j))] [.int (nI n23)] (xH lev hel res F FP sta bas obj nx sa kn vu f wa (nI L) cap keys dp ln mk pt sl (nI n) (nI Q) op23 rs23 (nI n23) f23 en ef gn gf pl) rfl ?_
  exact aw_iret rfl rfl rfl ⟨by rw [← hsh23.1], x_mk ⟨hx.1, hx.2.1, hx.2.2.1, hx.2.2.2.1, hx.2.2.2.2.1, hsh23⟩⟩ rfl (Nat.le_refl _) (Nat.le_refl _) -- [.int (nI n23)] (xH lev hel res F FP sta bas obj nx sa kn vu f wa (nI L) cap keys dp ln mk pt sl (nI n) (nI Q) op23 rs23 (nI n23) f23 en ef gn gf pl)
set_option maxHeartbeats 2000000 in
set_option maxRecDepth 100000 in
theorem c_X_tell_n (l : Launch) (lev : Int32) (hel : Int32) (res : Int32) (sta : Nat → Int32) (bas : Nat → Int32) (obj : Nat → Int32) (nx : Int32) (sa : Int32) (kn : Int32) (vu : Int64) (f : Nat → Int32) (wa : Nat → Int32) (cap : Nat) (keys : Nat → Int64) (dp : Nat → Int32) (ln : Nat → Int32) (mk : Nat → Int32) (pt : Nat → Int32) (sl : Nat → Int32) (top : Int32) (trs : Nat → Int32) (ouf : Nat → Int32) (en : Int32) (ef : Nat → Int32) (gn : Int32) (gf : Nat → Int32) (pl : Nat → Int32) (n no Q e0 : Nat) (t : Nat → Tr) (T : Nat → Nat) (L : Nat) (w : Nat → Nat) (P : Nat → Tr) (F FP : Int32) (O : List Nat) (hx : x_in cap n Q e0 t keys dp ln mk sl f wa pl no ouf T L w P O) (p : Int32) (hp : ¬ isP p) : Con l y_X_tell M_X_tell 9 202 [.ref 0, .int p] (xH lev hel res F FP sta bas obj nx sa kn vu f wa (nI L) cap keys dp ln mk pt sl (nI n) (nI Q) top trs (nI no) ouf en ef gn gf pl) 1 0 0 0 (fun r h' => r = some (.int (-1)) ∧ x_ok cap n Q T L w P F FP O h') := by
  refine Con.ent ok_X_tell (by decide +kernel) rfl ?_
  intro pA eA sA mA argsA belowA methA cA GA μA
  refine aw_go 1 1 [some (.ref 0), some (.int p)] [.int p] (xH lev hel res F FP sta bas obj nx sa kn vu f wa (nI L) cap keys dp ln mk pt sl (nI n) (nI Q) top trs (nI no) ouf en ef gn gf pl) rfl ?_
  refine aw_cS [] (c_X_isP0 l p hp) rfl cw_X_74 rfl rfl rfl rfl (Nat.le_refl _) (Nat.le_refl _) (fun r h' hp => ?_)
  obtain ⟨rfl, rfl⟩ := hp
  refine aw_go 0 4 [some (.ref 0), some (.int p)] [.int 0] (xH lev hel res F FP sta bas obj nx sa kn vu f wa (nI L) cap keys dp ln mk pt sl (nI n) (nI Q) top trs (nI no) ouf en ef gn gf pl) rfl ?_
  refine aw_if_ne rfl (fun h4 => absurd h4 (by decide)) (fun h4 => ?_)
  refine aw_go 1 8 [some (.ref 0), some (.int p)] [.int (-1)] (xH lev hel res F FP sta bas obj nx sa kn vu f wa (nI L) cap keys dp ln mk pt sl (nI n) (nI Q) top trs (nI no) ouf en ef gn gf pl) rfl ?_
  exact aw_iret rfl rfl rfl ⟨rfl, x_mk hx⟩ rfl (Nat.le_refl _) (Nat.le_refl _) -- [.int (-1)] (xH lev hel res F FP sta bas obj nx sa kn vu f wa (nI L) cap keys dp ln mk pt sl (nI n) (nI Q) top trs (nI no) ouf en ef gn gf pl)
set_option maxHeartbeats 2000000 in
set_option maxRecDepth 100000 in
theorem c_X_num_y (l : Launch) (lev : Int32) (hel : Int32) (res : Int32) (sta : Nat → Int32) (bas : Nat → Int32) (obj : Nat → Int32) (nx : Int32) (sa : Int32) (kn : Int32) (vu : Int64) (f : Nat → Int32) (wa : Nat → Int32) (cap : Nat) (keys : Nat → Int64) (dp : Nat → Int32) (ln : Nat → Int32) (mk : Nat → Int32) (pt : Nat → Int32) (sl : Nat → Int32) (top : Int32) (trs : Nat → Int32) (ouf : Nat → Int32) (en : Int32) (ef : Nat → Int32) (gn : Int32) (gf : Nat → Int32) (pl : Nat → Int32) (n no Q e0 : Nat) (t : Nat → Tr) (T : Nat → Nat) (L : Nat) (w : Nat → Nat) (P : Nat → Tr) (F FP : Int32) (O : List Nat) (hx : x_in cap n Q e0 t keys dp ln mk sl f wa pl no ouf T L w P O) (j : Nat) (hj : j < 8) (c : Nat) (hc : P j = .var c) (hk : c % 2 = 0) : Con l y_X_number M_X_number 2 42 [.ref 0, .int (nI j)] (xH lev hel res F FP sta bas obj nx sa kn vu f wa (nI L) cap keys dp ln mk pt sl (nI n) (nI Q) top trs (nI no) ouf en ef gn gf pl) 1 0 0 0 (fun r h' => r = some (.long (lN (c / 2))) ∧ x_ok cap n Q T L w P F FP O h') := by
  refine Con.ent ok_X_number (by decide +kernel) rfl ?_
  intro pA eA sA mA argsA belowA methA cA GA μA
  refine aw_go 1 1 [some (.ref 0), some (.int (nI j))] [.int (nI j)] (xH lev hel res F FP sta bas obj nx sa kn vu f wa (nI L) cap keys dp ln mk pt sl (nI n) (nI Q) top trs (nI no) ouf en ef gn gf pl) rfl ?_
  refine aw_cS [] (c_X_isP1 l j hj) rfl cw_X_74 rfl rfl rfl rfl (Nat.le_refl _) (Nat.le_refl _) (fun r h' hp => ?_)
  obtain ⟨rfl, rfl⟩ := hp
  refine aw_go 0 4 [some (.ref 0), some (.int (nI j))] [.int 1] (xH lev hel res F FP sta bas obj nx sa kn vu f wa (nI L) cap keys dp ln mk pt sl (nI n) (nI Q) top trs (nI no) ouf en ef gn gf pl) rfl ?_
  refine aw_if_eq rfl (fun h4 => absurd h4 (by decide)) (fun h4 => ?_)
  refine aw_go 5 16 [some (.ref 0), some (.int (nI j))] [.int (nI j), .ref 24, .ref 9] (xH lev hel res F FP sta bas obj nx sa kn vu f wa (nI L) cap keys dp ln mk pt sl (nI n) (nI Q) top trs (nI no) ouf en ef gn gf pl) rfl ?_
  refine aw_ialdN rfl rfl ⟨by omega, by omega⟩ ?_
  obtain ⟨i, hi, hpl_i, ht_i⟩ := hx.2.2.2.2.1 j hj
  rw [hpl_i]
  refine aw_cV [9, 10, 11, 12, 13, 14, 15] (c_St_kd l cap n keys dp ln mk pt sl (nI Q) e0 t hx.1 i hi) rfl cw_X_129 rfl rfl rfl rfl rfl rfl (Nat.le_refl _) (Nat.le_refl _) (fun r h' hp => ?_)
  obtain ⟨rfl, rfl⟩ := hp
  rw [ht_i, hc, show tr_kd (.var c) = 0 from hk]
  refine aw_go 0 20 [some (.ref 0), some (.int (nI j))] [.int 0] (xH lev hel res F FP sta bas obj nx sa kn vu f wa (nI L) cap keys dp ln mk pt sl (nI n) (nI Q) top trs (nI no) ouf en ef gn gf pl) rfl ?_
  refine aw_if_eq rfl (fun h20 => ?_) (fun h20 => absurd h20 (by decide))
  refine aw_go 5 36 [some (.ref 0), some (.int (nI j))] [.int (nI j), .ref 24, .ref 9] (xH lev hel res F FP sta bas obj nx sa kn vu f wa (nI L) cap keys dp ln mk pt sl (nI n) (nI Q) top trs (nI no) ouf en ef gn gf pl) rfl ?_
  refine aw_ialdN rfl rfl ⟨by omega, by omega⟩ ?_
  rw [hpl_i]
  refine aw_cV [9, 10, 11, 12, 13, 14, 15] (c_St_vl l cap n keys dp ln mk pt sl (nI Q) e0 t hx.1 i hi c (by rw [ht_i]; exact hc)) rfl cw_X_134 rfl rfl rfl rfl rfl rfl (Nat.le_refl _) (Nat.le_refl _) (fun r h' hp => ?_)
  obtain ⟨rfl, rfl⟩ := hp
  refine aw_go 0 40 [some (.ref 0), some (.int (nI j))] [.long (lN (c / 2))] (xH lev hel res F FP sta bas obj nx sa kn vu f wa (nI L) cap keys dp ln mk pt sl (nI n) (nI Q) top trs (nI no) ouf en ef gn gf pl) rfl ?_
  exact aw_lret rfl rfl ⟨rfl, x_mk hx⟩ rfl (Nat.le_refl _) (Nat.le_refl _) -- [.long (lN (c / 2))] (xH lev hel res F FP sta bas obj nx sa kn vu f wa (nI L) cap keys dp ln mk pt sl (nI n) (nI Q) top trs (nI no) ouf en ef gn gf pl)
set_option maxHeartbeats 2000000 in
set_option maxRecDepth 100000 in
theorem c_X_num_n (l : Launch) (lev : Int32) (hel : Int32) (res : Int32) (sta : Nat → Int32) (bas : Nat → Int32) (obj : Nat → Int32) (nx : Int32) (sa : Int32) (kn : Int32) (vu : Int64) (f : Nat → Int32) (wa : Nat → Int32) (cap : Nat) (keys : Nat → Int64) (dp : Nat → Int32) (ln : Nat → Int32) (mk : Nat → Int32) (pt : Nat → Int32) (sl : Nat → Int32) (top : Int32) (trs : Nat → Int32) (ouf : Nat → Int32) (en : Int32) (ef : Nat → Int32) (gn : Int32) (gf : Nat → Int32) (pl : Nat → Int32) (n no Q e0 : Nat) (t : Nat → Tr) (T : Nat → Nat) (L : Nat) (w : Nat → Nat) (P : Nat → Tr) (F FP : Int32) (O : List Nat) (hx : x_in cap n Q e0 t keys dp ln mk sl f wa pl no ouf T L w P O) (p : Int32) (hp : ¬ isP p) : Con l y_X_number M_X_number 2 42 [.ref 0, .int p] (xH lev hel res F FP sta bas obj nx sa kn vu f wa (nI L) cap keys dp ln mk pt sl (nI n) (nI Q) top trs (nI no) ouf en ef gn gf pl) 1 0 0 0 (fun r h' => r = some (.long (-1)) ∧ x_ok cap n Q T L w P F FP O h') := by
  refine Con.ent ok_X_number (by decide +kernel) rfl ?_
  intro pA eA sA mA argsA belowA methA cA GA μA
  refine aw_go 1 1 [some (.ref 0), some (.int p)] [.int p] (xH lev hel res F FP sta bas obj nx sa kn vu f wa (nI L) cap keys dp ln mk pt sl (nI n) (nI Q) top trs (nI no) ouf en ef gn gf pl) rfl ?_
  refine aw_cS [] (c_X_isP0 l p hp) rfl cw_X_74 rfl rfl rfl rfl (Nat.le_refl _) (Nat.le_refl _) (fun r h' hp => ?_)
  obtain ⟨rfl, rfl⟩ := hp
  refine aw_go 0 4 [some (.ref 0), some (.int p)] [.int 0] (xH lev hel res F FP sta bas obj nx sa kn vu f wa (nI L) cap keys dp ln mk pt sl (nI n) (nI Q) top trs (nI no) ouf en ef gn gf pl) rfl ?_
  refine aw_if_eq rfl (fun h4 => ?_) (fun h4 => absurd h4 (by decide))
  refine aw_go 1 26 [some (.ref 0), some (.int p)] [.long (-1)] (xH lev hel res F FP sta bas obj nx sa kn vu f wa (nI L) cap keys dp ln mk pt sl (nI n) (nI Q) top trs (nI no) ouf en ef gn gf pl) rfl ?_
  exact aw_lret rfl rfl ⟨rfl, x_mk hx⟩ rfl (Nat.le_refl _) (Nat.le_refl _) -- [.long (-1)] (xH lev hel res F FP sta bas obj nx sa kn vu f wa (nI L) cap keys dp ln mk pt sl (nI n) (nI Q) top trs (nI no) ouf en ef gn gf pl)
set_option maxHeartbeats 2000000 in
set_option maxRecDepth 100000 in
theorem c_X_num_k (l : Launch) (lev : Int32) (hel : Int32) (res : Int32) (sta : Nat → Int32) (bas : Nat → Int32) (obj : Nat → Int32) (nx : Int32) (sa : Int32) (kn : Int32) (vu : Int64) (f : Nat → Int32) (wa : Nat → Int32) (cap : Nat) (keys : Nat → Int64) (dp : Nat → Int32) (ln : Nat → Int32) (mk : Nat → Int32) (pt : Nat → Int32) (sl : Nat → Int32) (top : Int32) (trs : Nat → Int32) (ouf : Nat → Int32) (en : Int32) (ef : Nat → Int32) (gn : Int32) (gf : Nat → Int32) (pl : Nat → Int32) (n no Q e0 : Nat) (t : Nat → Tr) (T : Nat → Nat) (L : Nat) (w : Nat → Nat) (P : Nat → Tr) (F FP : Int32) (O : List Nat) (hx : x_in cap n Q e0 t keys dp ln mk sl f wa pl no ouf T L w P O) (j : Nat) (hj : j < 8) (hk : tr_kd (P j) ≠ 0) : Con l y_X_number M_X_number 2 42 [.ref 0, .int (nI j)] (xH lev hel res F FP sta bas obj nx sa kn vu f wa (nI L) cap keys dp ln mk pt sl (nI n) (nI Q) top trs (nI no) ouf en ef gn gf pl) 1 0 0 0 (fun r h' => r = some (.long (-1)) ∧ x_ok cap n Q T L w P F FP O h') := by
  refine Con.ent ok_X_number (by decide +kernel) rfl ?_
  intro pA eA sA mA argsA belowA methA cA GA μA
  refine aw_go 1 1 [some (.ref 0), some (.int (nI j))] [.int (nI j)] (xH lev hel res F FP sta bas obj nx sa kn vu f wa (nI L) cap keys dp ln mk pt sl (nI n) (nI Q) top trs (nI no) ouf en ef gn gf pl) rfl ?_
  refine aw_cS [] (c_X_isP1 l j hj) rfl cw_X_74 rfl rfl rfl rfl (Nat.le_refl _) (Nat.le_refl _) (fun r h' hp => ?_)
  obtain ⟨rfl, rfl⟩ := hp
  refine aw_go 0 4 [some (.ref 0), some (.int (nI j))] [.int 1] (xH lev hel res F FP sta bas obj nx sa kn vu f wa (nI L) cap keys dp ln mk pt sl (nI n) (nI Q) top trs (nI no) ouf en ef gn gf pl) rfl ?_
  refine aw_if_eq rfl (fun h4 => absurd h4 (by decide)) (fun h4 => ?_)
  refine aw_go 5 16 [some (.ref 0), some (.int (nI j))] [.int (nI j), .ref 24, .ref 9] (xH lev hel res F FP sta bas obj nx sa kn vu f wa (nI L) cap keys dp ln mk pt sl (nI n) (nI Q) top trs (nI no) ouf en ef gn gf pl) rfl ?_
  refine aw_ialdN rfl rfl ⟨by omega, by omega⟩ ?_
  obtain ⟨i, hi, hpl_i, ht_i⟩ := hx.2.2.2.2.1 j hj
  rw [hpl_i]
  refine aw_cV [9, 10, 11, 12, 13, 14, 15] (c_St_kd l cap n keys dp ln mk pt sl (nI Q) e0 t hx.1 i hi) rfl cw_X_129 rfl rfl rfl rfl rfl rfl (Nat.le_refl _) (Nat.le_refl _) (fun r h' hp => ?_)
  obtain ⟨rfl, rfl⟩ := hp
  rw [ht_i]
  refine aw_go 0 20 [some (.ref 0), some (.int (nI j))] [.int (nI (tr_kd (P j)))] (xH lev hel res F FP sta bas obj nx sa kn vu f wa (nI L) cap keys dp ln mk pt sl (nI n) (nI Q) top trs (nI no) ouf en ef gn gf pl) rfl ?_
  refine aw_if_eq rfl (fun h20 => absurd (nI_inj (b := 0) (by have := tr_kd_lt (P j); omega) (by omega) h20) hk) (fun h20 => ?_)
  refine aw_go 1 26 [some (.ref 0), some (.int (nI j))] [.long (-1)] (xH lev hel res F FP sta bas obj nx sa kn vu f wa (nI L) cap keys dp ln mk pt sl (nI n) (nI Q) top trs (nI no) ouf en ef gn gf pl) rfl ?_
  exact aw_lret rfl rfl ⟨rfl, x_mk hx⟩ rfl (Nat.le_refl _) (Nat.le_refl _) -- [.long (-1)] (xH lev hel res F FP sta bas obj nx sa kn vu f wa (nI L) cap keys dp ln mk pt sl (nI n) (nI Q) top trs (nI no) ouf en ef gn gf pl)
set_option maxHeartbeats 2000000 in
set_option maxRecDepth 100000 in
theorem c_X_about_0 (l : Launch) (lev : Int32) (hel : Int32) (res : Int32) (sta : Nat → Int32) (bas : Nat → Int32) (obj : Nat → Int32) (nx : Int32) (sa : Int32) (kn : Int32) (vu : Int64) (f : Nat → Int32) (wa : Nat → Int32) (cap : Nat) (keys : Nat → Int64) (dp : Nat → Int32) (ln : Nat → Int32) (mk : Nat → Int32) (pt : Nat → Int32) (sl : Nat → Int32) (top : Int32) (trs : Nat → Int32) (ouf : Nat → Int32) (en : Int32) (ef : Nat → Int32) (gn : Int32) (gf : Nat → Int32) (pl : Nat → Int32) (n no Q e0 : Nat) (t : Nat → Tr) (T : Nat → Nat) (L : Nat) (w : Nat → Nat) (P : Nat → Tr) (F FP : Int32) (O : List Nat) (hx : x_in cap n Q e0 t keys dp ln mk sl f wa pl no ouf T L w P O) (j : Nat) (hj : j < 8) : Con l y_X_about M_X_about 4 90 [.ref 0, .int (nI j), .int 0] (xH lev hel res F FP sta bas obj nx sa kn vu f wa (nI L) cap keys dp ln mk pt sl (nI n) (nI Q) top trs (nI no) ouf en ef gn gf pl) 1 0 0 0 (fun r h' => r = some (.int (nI (tr_kd (P j)))) ∧ x_ok cap n Q T L w P F FP O h') := by
  refine Con.ent ok_X_about (by decide +kernel) rfl ?_
  intro pA eA sA mA argsA belowA methA cA GA μA
  refine aw_go 1 1 [some (.ref 0), some (.int (nI j)), some (.int 0)] [.int (nI j)] (xH lev hel res F FP sta bas obj nx sa kn vu f wa (nI L) cap keys dp ln mk pt sl (nI n) (nI Q) top trs (nI no) ouf en ef gn gf pl) rfl ?_
  refine aw_cS [] (c_X_isP1 l j hj) rfl cw_X_74 rfl rfl rfl rfl (Nat.le_refl _) (Nat.le_refl _) (fun r h' hp => ?_)
  obtain ⟨rfl, rfl⟩ := hp
  refine aw_go 0 4 [some (.ref 0), some (.int (nI j)), some (.int 0)] [.int 1] (xH lev hel res F FP sta bas obj nx sa kn vu f wa (nI L) cap keys dp ln mk pt sl (nI n) (nI Q) top trs (nI no) ouf en ef gn gf pl) rfl ?_
  refine aw_if_ne rfl (fun h4 => ?_) (fun h4 => absurd h4 (by decide))
  refine aw_go 1 10 [some (.ref 0), some (.int (nI j)), some (.int 0)] [.int 0] (xH lev hel res F FP sta bas obj nx sa kn vu f wa (nI L) cap keys dp ln mk pt sl (nI n) (nI Q) top trs (nI no) ouf en ef gn gf pl) rfl ?_
  refine aw_tabK 0 34 44 rfl rfl (by decide) ?_
  refine aw_go 5 53 [some (.ref 0), some (.int (nI j)), some (.int 0)] [.int (nI j), .ref 24, .ref 9] (xH lev hel res F FP sta bas obj nx sa kn vu f wa (nI L) cap keys dp ln mk pt sl (nI n) (nI Q) top trs (nI no) ouf en ef gn gf pl) rfl ?_
  refine aw_ialdN rfl rfl ⟨by omega, by omega⟩ ?_
  obtain ⟨i, hi, hpl_i, ht_i⟩ := hx.2.2.2.2.1 j hj
  rw [hpl_i]
  refine aw_cV [9, 10, 11, 12, 13, 14, 15] (c_St_kd l cap n keys dp ln mk pt sl (nI Q) e0 t hx.1 i hi) rfl cw_X_129 rfl rfl rfl rfl rfl rfl (Nat.le_refl _) (Nat.le_refl _) (fun r h' hp => ?_)
  obtain ⟨rfl, rfl⟩ := hp
  rw [ht_i]
  refine aw_go 0 57 [some (.ref 0), some (.int (nI j)), some (.int 0)] [.int (nI (tr_kd (P j)))] (xH lev hel res F FP sta bas obj nx sa kn vu f wa (nI L) cap keys dp ln mk pt sl (nI n) (nI Q) top trs (nI no) ouf en ef gn gf pl) rfl ?_
  exact aw_iret rfl rfl rfl ⟨rfl, x_mk hx⟩ rfl (Nat.le_refl _) (Nat.le_refl _) -- [.int (nI (tr_kd (P j)))] (xH lev hel res F FP sta bas obj nx sa kn vu f wa (nI L) cap keys dp ln mk pt sl (nI n) (nI Q) top trs (nI no) ouf en ef gn gf pl)
set_option maxHeartbeats 2000000 in
set_option maxRecDepth 100000 in
theorem c_X_about_1 (l : Launch) (lev : Int32) (hel : Int32) (res : Int32) (sta : Nat → Int32) (bas : Nat → Int32) (obj : Nat → Int32) (nx : Int32) (sa : Int32) (kn : Int32) (vu : Int64) (f : Nat → Int32) (wa : Nat → Int32) (cap : Nat) (keys : Nat → Int64) (dp : Nat → Int32) (ln : Nat → Int32) (mk : Nat → Int32) (pt : Nat → Int32) (sl : Nat → Int32) (top : Int32) (trs : Nat → Int32) (ouf : Nat → Int32) (en : Int32) (ef : Nat → Int32) (gn : Int32) (gf : Nat → Int32) (pl : Nat → Int32) (n no Q e0 : Nat) (t : Nat → Tr) (T : Nat → Nat) (L : Nat) (w : Nat → Nat) (P : Nat → Tr) (F FP : Int32) (O : List Nat) (hx : x_in cap n Q e0 t keys dp ln mk sl f wa pl no ouf T L w P O) (j : Nat) (hj : j < 8) : Con l y_X_about M_X_about 4 90 [.ref 0, .int (nI j), .int 1] (xH lev hel res F FP sta bas obj nx sa kn vu f wa (nI L) cap keys dp ln mk pt sl (nI n) (nI Q) top trs (nI no) ouf en ef gn gf pl) 1 0 0 0 (fun r h' => r = some (.int (nI (tr_dep (P j)))) ∧ x_ok cap n Q T L w P F FP O h') := by
  refine Con.ent ok_X_about (by decide +kernel) rfl ?_
  intro pA eA sA mA argsA belowA methA cA GA μA
  refine aw_go 1 1 [some (.ref 0), some (.int (nI j)), some (.int 1)] [.int (nI j)] (xH lev hel res F FP sta bas obj nx sa kn vu f wa (nI L) cap keys dp ln mk pt sl (nI n) (nI Q) top trs (nI no) ouf en ef gn gf pl) rfl ?_
  refine aw_cS [] (c_X_isP1 l j hj) rfl cw_X_74 rfl rfl rfl rfl (Nat.le_refl _) (Nat.le_refl _) (fun r h' hp => ?_)
  obtain ⟨rfl, rfl⟩ := hp
  refine aw_go 0 4 [some (.ref 0), some (.int (nI j)), some (.int 1)] [.int 1] (xH lev hel res F FP sta bas obj nx sa kn vu f wa (nI L) cap keys dp ln mk pt sl (nI n) (nI Q) top trs (nI no) ouf en ef gn gf pl) rfl ?_
  refine aw_if_ne rfl (fun h4 => ?_) (fun h4 => absurd h4 (by decide))
  refine aw_go 1 10 [some (.ref 0), some (.int (nI j)), some (.int 1)] [.int 1] (xH lev hel res F FP sta bas obj nx sa kn vu f wa (nI L) cap keys dp ln mk pt sl (nI n) (nI Q) top trs (nI no) ouf en ef gn gf pl) rfl ?_
  refine aw_tabK 1 48 58 rfl rfl (by decide) ?_
  refine aw_go 5 67 [some (.ref 0), some (.int (nI j)), some (.int 1)] [.int (nI j), .ref 24, .ref 9] (xH lev hel res F FP sta bas obj nx sa kn vu f wa (nI L) cap keys dp ln mk pt sl (nI n) (nI Q) top trs (nI no) ouf en ef gn gf pl) rfl ?_
  refine aw_ialdN rfl rfl ⟨by omega, by omega⟩ ?_
  obtain ⟨i, hi, hpl_i, ht_i⟩ := hx.2.2.2.2.1 j hj
  rw [hpl_i]
  refine aw_cV [9, 10, 11, 12, 13, 14, 15] (c_St_dp l cap n keys dp ln mk pt sl (nI Q) e0 t hx.1 i hi) rfl cw_X_138 rfl rfl rfl rfl rfl rfl (Nat.le_refl _) (Nat.le_refl _) (fun r h' hp => ?_)
  obtain ⟨rfl, rfl⟩ := hp
  rw [ht_i]
  refine aw_go 0 71 [some (.ref 0), some (.int (nI j)), some (.int 1)] [.int (nI (tr_dep (P j)))] (xH lev hel res F FP sta bas obj nx sa kn vu f wa (nI L) cap keys dp ln mk pt sl (nI n) (nI Q) top trs (nI no) ouf en ef gn gf pl) rfl ?_
  exact aw_iret rfl rfl rfl ⟨rfl, x_mk hx⟩ rfl (Nat.le_refl _) (Nat.le_refl _) -- [.int (nI (tr_dep (P j)))] (xH lev hel res F FP sta bas obj nx sa kn vu f wa (nI L) cap keys dp ln mk pt sl (nI n) (nI Q) top trs (nI no) ouf en ef gn gf pl)
set_option maxHeartbeats 2000000 in
set_option maxRecDepth 100000 in
theorem c_X_about_2 (l : Launch) (lev : Int32) (hel : Int32) (res : Int32) (sta : Nat → Int32) (bas : Nat → Int32) (obj : Nat → Int32) (nx : Int32) (sa : Int32) (kn : Int32) (vu : Int64) (f : Nat → Int32) (wa : Nat → Int32) (cap : Nat) (keys : Nat → Int64) (dp : Nat → Int32) (ln : Nat → Int32) (mk : Nat → Int32) (pt : Nat → Int32) (sl : Nat → Int32) (top : Int32) (trs : Nat → Int32) (ouf : Nat → Int32) (en : Int32) (ef : Nat → Int32) (gn : Int32) (gf : Nat → Int32) (pl : Nat → Int32) (n no Q e0 : Nat) (t : Nat → Tr) (T : Nat → Nat) (L : Nat) (w : Nat → Nat) (P : Nat → Tr) (F FP : Int32) (O : List Nat) (hx : x_in cap n Q e0 t keys dp ln mk sl f wa pl no ouf T L w P O) (j : Nat) (hj : j < 8) : Con l y_X_about M_X_about 4 90 [.ref 0, .int (nI j), .int 2] (xH lev hel res F FP sta bas obj nx sa kn vu f wa (nI L) cap keys dp ln mk pt sl (nI n) (nI Q) top trs (nI no) ouf en ef gn gf pl) 1 0 0 0 (fun r h' => r = some (.int (oI (tr_len (P j)))) ∧ x_ok cap n Q T L w P F FP O h') := by
  refine Con.ent ok_X_about (by decide +kernel) rfl ?_
  intro pA eA sA mA argsA belowA methA cA GA μA
  refine aw_go 1 1 [some (.ref 0), some (.int (nI j)), some (.int 2)] [.int (nI j)] (xH lev hel res F FP sta bas obj nx sa kn vu f wa (nI L) cap keys dp ln mk pt sl (nI n) (nI Q) top trs (nI no) ouf en ef gn gf pl) rfl ?_
  refine aw_cS [] (c_X_isP1 l j hj) rfl cw_X_74 rfl rfl rfl rfl (Nat.le_refl _) (Nat.le_refl _) (fun r h' hp => ?_)
  obtain ⟨rfl, rfl⟩ := hp
  refine aw_go 0 4 [some (.ref 0), some (.int (nI j)), some (.int 2)] [.int 1] (xH lev hel res F FP sta bas obj nx sa kn vu f wa (nI L) cap keys dp ln mk pt sl (nI n) (nI Q) top trs (nI no) ouf en ef gn gf pl) rfl ?_
  refine aw_if_ne rfl (fun h4 => ?_) (fun h4 => absurd h4 (by decide))
  refine aw_go 1 10 [some (.ref 0), some (.int (nI j)), some (.int 2)] [.int 2] (xH lev hel res F FP sta bas obj nx sa kn vu f wa (nI L) cap keys dp ln mk pt sl (nI n) (nI Q) top trs (nI no) ouf en ef gn gf pl) rfl ?_
  refine aw_tabK 2 62 72 rfl rfl (by decide) ?_
  refine aw_go 5 81 [some (.ref 0), some (.int (nI j)), some (.int 2)] [.int (nI j), .ref 24, .ref 9] (xH lev hel res F FP sta bas obj nx sa kn vu f wa (nI L) cap keys dp ln mk pt sl (nI n) (nI Q) top trs (nI no) ouf en ef gn gf pl) rfl ?_
  refine aw_ialdN rfl rfl ⟨by omega, by omega⟩ ?_
  obtain ⟨i, hi, hpl_i, ht_i⟩ := hx.2.2.2.2.1 j hj
  rw [hpl_i]
  refine aw_cV [9, 10, 11, 12, 13, 14, 15] (c_St_ln l cap n keys dp ln mk pt sl (nI Q) e0 t hx.1 i hi) rfl cw_X_141 rfl rfl rfl rfl rfl rfl (Nat.le_refl _) (Nat.le_refl _) (fun r h' hp => ?_)
  obtain ⟨rfl, rfl⟩ := hp
  rw [ht_i]
  refine aw_go 0 85 [some (.ref 0), some (.int (nI j)), some (.int 2)] [.int (oI (tr_len (P j)))] (xH lev hel res F FP sta bas obj nx sa kn vu f wa (nI L) cap keys dp ln mk pt sl (nI n) (nI Q) top trs (nI no) ouf en ef gn gf pl) rfl ?_
  exact aw_iret rfl rfl rfl ⟨rfl, x_mk hx⟩ rfl (Nat.le_refl _) (Nat.le_refl _) -- [.int (oI (tr_len (P j)))] (xH lev hel res F FP sta bas obj nx sa kn vu f wa (nI L) cap keys dp ln mk pt sl (nI n) (nI Q) top trs (nI no) ouf en ef gn gf pl)
set_option maxHeartbeats 2000000 in
set_option maxRecDepth 100000 in
theorem c_X_about_3 (l : Launch) (lev : Int32) (hel : Int32) (res : Int32) (sta : Nat → Int32) (bas : Nat → Int32) (obj : Nat → Int32) (nx : Int32) (sa : Int32) (kn : Int32) (vu : Int64) (f : Nat → Int32) (wa : Nat → Int32) (cap : Nat) (keys : Nat → Int64) (dp : Nat → Int32) (ln : Nat → Int32) (mk : Nat → Int32) (pt : Nat → Int32) (sl : Nat → Int32) (top : Int32) (trs : Nat → Int32) (ouf : Nat → Int32) (en : Int32) (ef : Nat → Int32) (gn : Int32) (gf : Nat → Int32) (pl : Nat → Int32) (n no Q e0 : Nat) (t : Nat → Tr) (T : Nat → Nat) (L : Nat) (w : Nat → Nat) (P : Nat → Tr) (F FP : Int32) (O : List Nat) (hx : x_in cap n Q e0 t keys dp ln mk sl f wa pl no ouf T L w P O) (j : Nat) (hj : j < 8) (hQ : Q + 1 < 2 ^ 31) : Con l y_X_about M_X_about 4 90 [.ref 0, .int (nI j), .int 3] (xH lev hel res F FP sta bas obj nx sa kn vu f wa (nI L) cap keys dp ln mk pt sl (nI n) (nI Q) top trs (nI no) ouf en ef gn gf pl) 1 0 0 0 (fun r h' => ∃ q, cnt_R (P j) true q ∧ r = some (.int (nI q)) ∧ x_ok cap n (Q + 1) T L w P F FP O h') := by
  refine Con.ent ok_X_about (by decide +kernel) rfl ?_
  intro pA eA sA mA argsA belowA methA cA GA μA
  refine aw_go 1 1 [some (.ref 0), some (.int (nI j)), some (.int 3)] [.int (nI j)] (xH lev hel res F FP sta bas obj nx sa kn vu f wa (nI L) cap keys dp ln mk pt sl (nI n) (nI Q) top trs (nI no) ouf en ef gn gf pl) rfl ?_
  refine aw_cS [] (c_X_isP1 l j hj) rfl cw_X_74 rfl rfl rfl rfl (Nat.le_refl _) (Nat.le_refl _) (fun r h' hp => ?_)
  obtain ⟨rfl, rfl⟩ := hp
  refine aw_go 0 4 [some (.ref 0), some (.int (nI j)), some (.int 3)] [.int 1] (xH lev hel res F FP sta bas obj nx sa kn vu f wa (nI L) cap keys dp ln mk pt sl (nI n) (nI Q) top trs (nI no) ouf en ef gn gf pl) rfl ?_
  refine aw_if_ne rfl (fun h4 => ?_) (fun h4 => absurd h4 (by decide))
  refine aw_go 1 10 [some (.ref 0), some (.int (nI j)), some (.int 3)] [.int 3] (xH lev hel res F FP sta bas obj nx sa kn vu f wa (nI L) cap keys dp ln mk pt sl (nI n) (nI Q) top trs (nI no) ouf en ef gn gf pl) rfl ?_
  refine aw_tabK 3 76 86 rfl rfl (by decide) ?_
  refine aw_go 5 95 [some (.ref 0), some (.int (nI j)), some (.int 3)] [.int (nI j), .ref 24, .ref 9] (xH lev hel res F FP sta bas obj nx sa kn vu f wa (nI L) cap keys dp ln mk pt sl (nI n) (nI Q) top trs (nI no) ouf en ef gn gf pl) rfl ?_
  refine aw_ialdN rfl rfl ⟨by omega, by omega⟩ ?_
  obtain ⟨i, hi, hpl_i, ht_i⟩ := hx.2.2.2.2.1 j hj
  rw [hpl_i]
  refine aw_go 1 97 [some (.ref 0), some (.int (nI j)), some (.int 3)] [.int 1, .int (nI i), .ref 9] (xH lev hel res F FP sta bas obj nx sa kn vu f wa (nI L) cap keys dp ln mk pt sl (nI n) (nI Q) top trs (nI no) ouf en ef gn gf pl) rfl ?_
  refine aw_cV [9, 10, 11, 12, 13, 14, 15] (c_St_countParts l cap n keys dp ln mk pt sl e0 t hx.1 i hi Q hx.2.1 hQ true) rfl cw_X_144 rfl rfl rfl rfl rfl rfl (Nat.le_refl _) (Nat.le_refl _) (fun r h' hp => ?_)
  obtain ⟨mk2, pt2, q, hm2, hcq, rfl, rfl⟩ := hp
  refine aw_go 0 100 [some (.ref 0), some (.int (nI j)), some (.int 3)] [.int (nI q)] (xH lev hel res F FP sta bas obj nx sa kn vu f wa (nI L) cap keys dp ln mk2 pt2 sl (nI n) (nI (Q + 1)) top trs (nI no) ouf en ef gn gf pl) rfl ?_
  exact aw_iret rfl rfl rfl ⟨q, by rw [← ht_i]; exact hcq, rfl, x_mk ⟨hx.1, hm2, hx.2.2.1, hx.2.2.2.1, hx.2.2.2.2.1, hx.2.2.2.2.2⟩⟩ rfl (Nat.le_refl _) (Nat.le_refl _) -- [.int (nI q)] (xH lev hel res F FP sta bas obj nx sa kn vu f wa (nI L) cap keys dp ln mk2 pt2 sl (nI n) (nI (Q + 1)) top trs (nI no) ouf en ef gn gf pl)
set_option maxHeartbeats 2000000 in
set_option maxRecDepth 100000 in
theorem c_X_about_4 (l : Launch) (lev : Int32) (hel : Int32) (res : Int32) (sta : Nat → Int32) (bas : Nat → Int32) (obj : Nat → Int32) (nx : Int32) (sa : Int32) (kn : Int32) (vu : Int64) (f : Nat → Int32) (wa : Nat → Int32) (cap : Nat) (keys : Nat → Int64) (dp : Nat → Int32) (ln : Nat → Int32) (mk : Nat → Int32) (pt : Nat → Int32) (sl : Nat → Int32) (top : Int32) (trs : Nat → Int32) (ouf : Nat → Int32) (en : Int32) (ef : Nat → Int32) (gn : Int32) (gf : Nat → Int32) (pl : Nat → Int32) (n no Q e0 : Nat) (t : Nat → Tr) (T : Nat → Nat) (L : Nat) (w : Nat → Nat) (P : Nat → Tr) (F FP : Int32) (O : List Nat) (hx : x_in cap n Q e0 t keys dp ln mk sl f wa pl no ouf T L w P O) (j : Nat) (hj : j < 8) (hQ : Q + 1 < 2 ^ 31) : Con l y_X_about M_X_about 4 90 [.ref 0, .int (nI j), .int 4] (xH lev hel res F FP sta bas obj nx sa kn vu f wa (nI L) cap keys dp ln mk pt sl (nI n) (nI Q) top trs (nI no) ouf en ef gn gf pl) 1 0 0 0 (fun r h' => ∃ q, cnt_R (P j) false q ∧ r = some (.int (nI q)) ∧ x_ok cap n (Q + 1) T L w P F FP O h') := by
  refine Con.ent ok_X_about (by decide +kernel) rfl ?_
  intro pA eA sA mA argsA belowA methA cA GA μA
  refine aw_go 1 1 [some (.ref 0), some (.int (nI j)), some (.int 4)] [.int (nI j)] (xH lev hel res F FP sta bas obj nx sa kn vu f wa (nI L) cap keys dp ln mk pt sl (nI n) (nI Q) top trs (nI no) ouf en ef gn gf pl) rfl ?_
  refine aw_cS [] (c_X_isP1 l j hj) rfl cw_X_74 rfl rfl rfl rfl (Nat.le_refl _) (Nat.le_refl _) (fun r h' hp => ?_)
  obtain ⟨rfl, rfl⟩ := hp
  refine aw_go 0 4 [some (.ref 0), some (.int (nI j)), some (.int 4)] [.int 1] (xH lev hel res F FP sta bas obj nx sa kn vu f wa (nI L) cap keys dp ln mk pt sl (nI n) (nI Q) top trs (nI no) ouf en ef gn gf pl) rfl ?_
  refine aw_if_ne rfl (fun h4 => ?_) (fun h4 => absurd h4 (by decide))
  refine aw_go 1 10 [some (.ref 0), some (.int (nI j)), some (.int 4)] [.int 4] (xH lev hel res F FP sta bas obj nx sa kn vu f wa (nI L) cap keys dp ln mk pt sl (nI n) (nI Q) top trs (nI no) ouf en ef gn gf pl) rfl ?_
  refine aw_tabK 4 91 101 rfl rfl (by decide) ?_
  refine aw_go 5 110 [some (.ref 0), some (.int (nI j)), some (.int 4)] [.int (nI j), .ref 24, .ref 9] (xH lev hel res F FP sta bas obj nx sa kn vu f wa (nI L) cap keys dp ln mk pt sl (nI n) (nI Q) top trs (nI no) ouf en ef gn gf pl) rfl ?_
  refine aw_ialdN rfl rfl ⟨by omega, by omega⟩ ?_
  obtain ⟨i, hi, hpl_i, ht_i⟩ := hx.2.2.2.2.1 j hj
  rw [hpl_i]
  refine aw_go 1 112 [some (.ref 0), some (.int (nI j)), some (.int 4)] [.int 0, .int (nI i), .ref 9] (xH lev hel res F FP sta bas obj nx sa kn vu f wa (nI L) cap keys dp ln mk pt sl (nI n) (nI Q) top trs (nI no) ouf en ef gn gf pl) rfl ?_
  refine aw_cV [9, 10, 11, 12, 13, 14, 15] (c_St_countParts l cap n keys dp ln mk pt sl e0 t hx.1 i hi Q hx.2.1 hQ false) rfl cw_X_144 rfl rfl rfl rfl rfl rfl (Nat.le_refl _) (Nat.le_refl _) (fun r h' hp => ?_)
  obtain ⟨mk2, pt2, q, hm2, hcq, rfl, rfl⟩ := hp
  refine aw_go 0 115 [some (.ref 0), some (.int (nI j)), some (.int 4)] [.int (nI q)] (xH lev hel res F FP sta bas obj nx sa kn vu f wa (nI L) cap keys dp ln mk2 pt2 sl (nI n) (nI (Q + 1)) top trs (nI no) ouf en ef gn gf pl) rfl ?_
  exact aw_iret rfl rfl rfl ⟨q, by rw [← ht_i]; exact hcq, rfl, x_mk ⟨hx.1, hm2, hx.2.2.1, hx.2.2.2.1, hx.2.2.2.2.1, hx.2.2.2.2.2⟩⟩ rfl (Nat.le_refl _) (Nat.le_refl _) -- [.int (nI q)] (xH lev hel res F FP sta bas obj nx sa kn vu f wa (nI L) cap keys dp ln mk2 pt2 sl (nI n) (nI (Q + 1)) top trs (nI no) ouf en ef gn gf pl)
set_option maxHeartbeats 2000000 in
set_option maxRecDepth 100000 in
theorem c_X_about_w (l : Launch) (lev : Int32) (hel : Int32) (res : Int32) (sta : Nat → Int32) (bas : Nat → Int32) (obj : Nat → Int32) (nx : Int32) (sa : Int32) (kn : Int32) (vu : Int64) (f : Nat → Int32) (wa : Nat → Int32) (cap : Nat) (keys : Nat → Int64) (dp : Nat → Int32) (ln : Nat → Int32) (mk : Nat → Int32) (pt : Nat → Int32) (sl : Nat → Int32) (top : Int32) (trs : Nat → Int32) (ouf : Nat → Int32) (en : Int32) (ef : Nat → Int32) (gn : Int32) (gf : Nat → Int32) (pl : Nat → Int32) (n no Q e0 : Nat) (t : Nat → Tr) (T : Nat → Nat) (L : Nat) (w : Nat → Nat) (P : Nat → Tr) (F FP : Int32) (O : List Nat) (hx : x_in cap n Q e0 t keys dp ln mk sl f wa pl no ouf T L w P O) (j : Nat) (hj : j < 8) (x : Int32) (hw : x ≠ 0 ∧ x ≠ 1 ∧ x ≠ 2 ∧ x ≠ 3 ∧ x ≠ 4) : Con l y_X_about M_X_about 4 90 [.ref 0, .int (nI j), .int x] (xH lev hel res F FP sta bas obj nx sa kn vu f wa (nI L) cap keys dp ln mk pt sl (nI n) (nI Q) top trs (nI no) ouf en ef gn gf pl) 1 0 0 0 (fun r h' => r = some (.int (-1)) ∧ x_ok cap n Q T L w P F FP O h') := by
  refine Con.ent ok_X_about (by decide +kernel) rfl ?_
  intro pA eA sA mA argsA belowA methA cA GA μA
  refine aw_go 1 1 [some (.ref 0), some (.int (nI j)), some (.int x)] [.int (nI j)] (xH lev hel res F FP sta bas obj nx sa kn vu f wa (nI L) cap keys dp ln mk pt sl (nI n) (nI Q) top trs (nI no) ouf en ef gn gf pl) rfl ?_
  refine aw_cS [] (c_X_isP1 l j hj) rfl cw_X_74 rfl rfl rfl rfl (Nat.le_refl _) (Nat.le_refl _) (fun r h' hp => ?_)
  obtain ⟨rfl, rfl⟩ := hp
  refine aw_go 0 4 [some (.ref 0), some (.int (nI j)), some (.int x)] [.int 1] (xH lev hel res F FP sta bas obj nx sa kn vu f wa (nI L) cap keys dp ln mk pt sl (nI n) (nI Q) top trs (nI no) ouf en ef gn gf pl) rfl ?_
  refine aw_if_ne rfl (fun h4 => ?_) (fun h4 => absurd h4 (by decide))
  refine aw_go 1 10 [some (.ref 0), some (.int (nI j)), some (.int x)] [.int x] (xH lev hel res F FP sta bas obj nx sa kn vu f wa (nI L) cap keys dp ln mk pt sl (nI n) (nI Q) top trs (nI no) ouf en ef gn gf pl) rfl ?_
  by_cases hz10_0 : x = 0
  · exact absurd hz10_0 (hw.1)
  by_cases hz10_1 : x = 1
  · exact absurd hz10_1 (hw.2.1)
  by_cases hz10_2 : x = 2
  · exact absurd hz10_2 (hw.2.2.1)
  by_cases hz10_3 : x = 3
  · exact absurd hz10_3 (hw.2.2.2.1)
  by_cases hz10_4 : x = 4
  · exact absurd hz10_4 hw.2.2.2.2
  refine aw_tabD 116 rfl (by have q0 := lv_neT (a := 0) hz10_0 (by decide); have q1 := lv_neT (a := 1) hz10_1 (by decide); have q2 := lv_neT (a := 2) hz10_2 (by decide); have q3 := lv_neT (a := 3) hz10_3 (by decide); have q4 := lv_neT (a := 4) hz10_4 (by decide); omega) (by decide) ?_
  refine aw_go 1 117 [some (.ref 0), some (.int (nI j)), some (.int x)] [.int (-1)] (xH lev hel res F FP sta bas obj nx sa kn vu f wa (nI L) cap keys dp ln mk pt sl (nI n) (nI Q) top trs (nI no) ouf en ef gn gf pl) rfl ?_
  exact aw_iret rfl rfl rfl ⟨rfl, x_mk hx⟩ rfl (Nat.le_refl _) (Nat.le_refl _) -- [.int (-1)] (xH lev hel res F FP sta bas obj nx sa kn vu f wa (nI L) cap keys dp ln mk pt sl (nI n) (nI Q) top trs (nI no) ouf en ef gn gf pl)
set_option maxHeartbeats 2000000 in
set_option maxRecDepth 100000 in
theorem c_X_about_n (l : Launch) (lev : Int32) (hel : Int32) (res : Int32) (sta : Nat → Int32) (bas : Nat → Int32) (obj : Nat → Int32) (nx : Int32) (sa : Int32) (kn : Int32) (vu : Int64) (f : Nat → Int32) (wa : Nat → Int32) (cap : Nat) (keys : Nat → Int64) (dp : Nat → Int32) (ln : Nat → Int32) (mk : Nat → Int32) (pt : Nat → Int32) (sl : Nat → Int32) (top : Int32) (trs : Nat → Int32) (ouf : Nat → Int32) (en : Int32) (ef : Nat → Int32) (gn : Int32) (gf : Nat → Int32) (pl : Nat → Int32) (n no Q e0 : Nat) (t : Nat → Tr) (T : Nat → Nat) (L : Nat) (w : Nat → Nat) (P : Nat → Tr) (F FP : Int32) (O : List Nat) (hx : x_in cap n Q e0 t keys dp ln mk sl f wa pl no ouf T L w P O) (p x : Int32) (hp : ¬ isP p) : Con l y_X_about M_X_about 4 90 [.ref 0, .int p, .int x] (xH lev hel res F FP sta bas obj nx sa kn vu f wa (nI L) cap keys dp ln mk pt sl (nI n) (nI Q) top trs (nI no) ouf en ef gn gf pl) 1 0 0 0 (fun r h' => r = some (.int (-1)) ∧ x_ok cap n Q T L w P F FP O h') := by
  refine Con.ent ok_X_about (by decide +kernel) rfl ?_
  intro pA eA sA mA argsA belowA methA cA GA μA
  refine aw_go 1 1 [some (.ref 0), some (.int p), some (.int x)] [.int p] (xH lev hel res F FP sta bas obj nx sa kn vu f wa (nI L) cap keys dp ln mk pt sl (nI n) (nI Q) top trs (nI no) ouf en ef gn gf pl) rfl ?_
  refine aw_cS [] (c_X_isP0 l p hp) rfl cw_X_74 rfl rfl rfl rfl (Nat.le_refl _) (Nat.le_refl _) (fun r h' hp => ?_)
  obtain ⟨rfl, rfl⟩ := hp
  refine aw_go 0 4 [some (.ref 0), some (.int p), some (.int x)] [.int 0] (xH lev hel res F FP sta bas obj nx sa kn vu f wa (nI L) cap keys dp ln mk pt sl (nI n) (nI Q) top trs (nI no) ouf en ef gn gf pl) rfl ?_
  refine aw_if_ne rfl (fun h4 => absurd h4 (by decide)) (fun h4 => ?_)
  refine aw_go 1 8 [some (.ref 0), some (.int p), some (.int x)] [.int (-1)] (xH lev hel res F FP sta bas obj nx sa kn vu f wa (nI L) cap keys dp ln mk pt sl (nI n) (nI Q) top trs (nI no) ouf en ef gn gf pl) rfl ?_
  exact aw_iret rfl rfl rfl ⟨rfl, x_mk hx⟩ rfl (Nat.le_refl _) (Nat.le_refl _) -- [.int (-1)] (xH lev hel res F FP sta bas obj nx sa kn vu f wa (nI L) cap keys dp ln mk pt sl (nI n) (nI Q) top trs (nI no) ouf en ef gn gf pl)
set_option maxHeartbeats 2000000 in
set_option maxRecDepth 100000 in
theorem c_X_same_e (l : Launch) (lev : Int32) (hel : Int32) (res : Int32) (sta : Nat → Int32) (bas : Nat → Int32) (obj : Nat → Int32) (nx : Int32) (sa : Int32) (kn : Int32) (vu : Int64) (f : Nat → Int32) (wa : Nat → Int32) (cap : Nat) (keys : Nat → Int64) (dp : Nat → Int32) (ln : Nat → Int32) (mk : Nat → Int32) (pt : Nat → Int32) (sl : Nat → Int32) (top : Int32) (trs : Nat → Int32) (ouf : Nat → Int32) (en : Int32) (ef : Nat → Int32) (gn : Int32) (gf : Nat → Int32) (pl : Nat → Int32) (n no Q e0 : Nat) (t : Nat → Tr) (T : Nat → Nat) (L : Nat) (w : Nat → Nat) (P : Nat → Tr) (F FP : Int32) (O : List Nat) (hx : x_in cap n Q e0 t keys dp ln mk sl f wa pl no ouf T L w P O) (j k : Nat) (hj : j < 8) (hk : k < 8) (he : P j = P k) : Con l y_X_same M_X_same 1 20 [.ref 0, .int (nI j), .int (nI k)] (xH lev hel res F FP sta bas obj nx sa kn vu f wa (nI L) cap keys dp ln mk pt sl (nI n) (nI Q) top trs (nI no) ouf en ef gn gf pl) 1 0 0 0 (fun r h' => r = some (.int 1) ∧ x_ok cap n Q T L w P F FP O h') := by
  have hc16 := hx.1.1.cap
  have hn16 := hx.1.1.2.1
  refine Con.ent ok_X_same (by decide +kernel) rfl ?_
  intro pA eA sA mA argsA belowA methA cA GA μA
  refine aw_go 1 1 [some (.ref 0), some (.int (nI j)), some (.int (nI k))] [.int (nI j)] (xH lev hel res F FP sta bas obj nx sa kn vu f wa (nI L) cap keys dp ln mk pt sl (nI n) (nI Q) top trs (nI no) ouf en ef gn gf pl) rfl ?_
  refine aw_cS [] (c_X_isP1 l j hj) rfl cw_X_74 rfl rfl rfl rfl (Nat.le_refl _) (Nat.le_refl _) (fun r h' hp => ?_)
  obtain ⟨rfl, rfl⟩ := hp
  refine aw_go 0 4 [some (.ref 0), some (.int (nI j)), some (.int (nI k))] [.int 1] (xH lev hel res F FP sta bas obj nx sa kn vu f wa (nI L) cap keys dp ln mk pt sl (nI n) (nI Q) top trs (nI no) ouf en ef gn gf pl) rfl ?_
  refine aw_if_eq rfl (fun h4 => absurd h4 (by decide)) (fun h4 => ?_)
  refine aw_go 1 8 [some (.ref 0), some (.int (nI j)), some (.int (nI k))] [.int (nI k)] (xH lev hel res F FP sta bas obj nx sa kn vu f wa (nI L) cap keys dp ln mk pt sl (nI n) (nI Q) top trs (nI no) ouf en ef gn gf pl) rfl ?_
  refine aw_cS [] (c_X_isP1 l k hk) rfl cw_X_74 rfl rfl rfl rfl (Nat.le_refl _) (Nat.le_refl _) (fun r h' hp => ?_)
  obtain ⟨rfl, rfl⟩ := hp
  refine aw_go 0 11 [some (.ref 0), some (.int (nI j)), some (.int (nI k))] [.int 1] (xH lev hel res F FP sta bas obj nx sa kn vu f wa (nI L) cap keys dp ln mk pt sl (nI n) (nI Q) top trs (nI no) ouf en ef gn gf pl) rfl ?_
  refine aw_if_eq rfl (fun h11 => absurd h11 (by decide)) (fun h11 => ?_)
  refine aw_go 3 19 [some (.ref 0), some (.int (nI j)), some (.int (nI k))] [.int (nI j), .ref 24] (xH lev hel res F FP sta bas obj nx sa kn vu f wa (nI L) cap keys dp ln mk pt sl (nI n) (nI Q) top trs (nI no) ouf en ef gn gf pl) rfl ?_
  refine aw_ialdN rfl rfl ⟨by omega, by omega⟩ ?_
  obtain ⟨i, hi, hpl_i, ht_i⟩ := hx.2.2.2.2.1 j hj
  rw [hpl_i]
  refine aw_go 3 25 [some (.ref 0), some (.int (nI j)), some (.int (nI k))] [.int (nI k), .ref 24, .int (nI i)] (xH lev hel res F FP sta bas obj nx sa kn vu f wa (nI L) cap keys dp ln mk pt sl (nI n) (nI Q) top trs (nI no) ouf en ef gn gf pl) rfl ?_
  refine aw_ialdN rfl rfl ⟨by omega, by omega⟩ ?_
  obtain ⟨i2, hi2, hpl_i2, ht_i2⟩ := hx.2.2.2.2.1 k hk
  rw [hpl_i2]
  refine aw_cmp_ne rfl (fun h26 => absurd (congrArg nI (hx.1.inj (i + 1) i i2 (by omega) hi hi2 (by rw [ht_i, ht_i2]; exact he))) h26) (fun h26 => ?_)
  refine aw_go 2 34 [some (.ref 0), some (.int (nI j)), some (.int (nI k))] [.int 1] (xH lev hel res F FP sta bas obj nx sa kn vu f wa (nI L) cap keys dp ln mk pt sl (nI n) (nI Q) top trs (nI no) ouf en ef gn gf pl) rfl ?_
  exact aw_iret rfl (by decide) rfl ⟨rfl, x_mk hx⟩ rfl (Nat.le_refl _) (Nat.le_refl _) -- [.int 1] (xH lev hel res F FP sta bas obj nx sa kn vu f wa (nI L) cap keys dp ln mk pt sl (nI n) (nI Q) top trs (nI no) ouf en ef gn gf pl)
set_option maxHeartbeats 2000000 in
set_option maxRecDepth 100000 in
theorem c_X_same_d (l : Launch) (lev : Int32) (hel : Int32) (res : Int32) (sta : Nat → Int32) (bas : Nat → Int32) (obj : Nat → Int32) (nx : Int32) (sa : Int32) (kn : Int32) (vu : Int64) (f : Nat → Int32) (wa : Nat → Int32) (cap : Nat) (keys : Nat → Int64) (dp : Nat → Int32) (ln : Nat → Int32) (mk : Nat → Int32) (pt : Nat → Int32) (sl : Nat → Int32) (top : Int32) (trs : Nat → Int32) (ouf : Nat → Int32) (en : Int32) (ef : Nat → Int32) (gn : Int32) (gf : Nat → Int32) (pl : Nat → Int32) (n no Q e0 : Nat) (t : Nat → Tr) (T : Nat → Nat) (L : Nat) (w : Nat → Nat) (P : Nat → Tr) (F FP : Int32) (O : List Nat) (hx : x_in cap n Q e0 t keys dp ln mk sl f wa pl no ouf T L w P O) (j k : Nat) (hj : j < 8) (hk : k < 8) (he : P j ≠ P k) : Con l y_X_same M_X_same 1 20 [.ref 0, .int (nI j), .int (nI k)] (xH lev hel res F FP sta bas obj nx sa kn vu f wa (nI L) cap keys dp ln mk pt sl (nI n) (nI Q) top trs (nI no) ouf en ef gn gf pl) 1 0 0 0 (fun r h' => r = some (.int 0) ∧ x_ok cap n Q T L w P F FP O h') := by
  have hc16 := hx.1.1.cap
  have hn16 := hx.1.1.2.1
  refine Con.ent ok_X_same (by decide +kernel) rfl ?_
  intro pA eA sA mA argsA belowA methA cA GA μA
  refine aw_go 1 1 [some (.ref 0), some (.int (nI j)), some (.int (nI k))] [.int (nI j)] (xH lev hel res F FP sta bas obj nx sa kn vu f wa (nI L) cap keys dp ln mk pt sl (nI n) (nI Q) top trs (nI no) ouf en ef gn gf pl) rfl ?_
  refine aw_cS [] (c_X_isP1 l j hj) rfl cw_X_74 rfl rfl rfl rfl (Nat.le_refl _) (Nat.le_refl _) (fun r h' hp => ?_)
  obtain ⟨rfl, rfl⟩ := hp
  refine aw_go 0 4 [some (.ref 0), some (.int (nI j)), some (.int (nI k))] [.int 1] (xH lev hel res F FP sta bas obj nx sa kn vu f wa (nI L) cap keys dp ln mk pt sl (nI n) (nI Q) top trs (nI no) ouf en ef gn gf pl) rfl ?_
  refine aw_if_eq rfl (fun h4 => absurd h4 (by decide)) (fun h4 => ?_)
  refine aw_go 1 8 [some (.ref 0), some (.int (nI j)), some (.int (nI k))] [.int (nI k)] (xH lev hel res F FP sta bas obj nx sa kn vu f wa (nI L) cap keys dp ln mk pt sl (nI n) (nI Q) top trs (nI no) ouf en ef gn gf pl) rfl ?_
  refine aw_cS [] (c_X_isP1 l k hk) rfl cw_X_74 rfl rfl rfl rfl (Nat.le_refl _) (Nat.le_refl _) (fun r h' hp => ?_)
  obtain ⟨rfl, rfl⟩ := hp
  refine aw_go 0 11 [some (.ref 0), some (.int (nI j)), some (.int (nI k))] [.int 1] (xH lev hel res F FP sta bas obj nx sa kn vu f wa (nI L) cap keys dp ln mk pt sl (nI n) (nI Q) top trs (nI no) ouf en ef gn gf pl) rfl ?_
  refine aw_if_eq rfl (fun h11 => absurd h11 (by decide)) (fun h11 => ?_)
  refine aw_go 3 19 [some (.ref 0), some (.int (nI j)), some (.int (nI k))] [.int (nI j), .ref 24] (xH lev hel res F FP sta bas obj nx sa kn vu f wa (nI L) cap keys dp ln mk pt sl (nI n) (nI Q) top trs (nI no) ouf en ef gn gf pl) rfl ?_
  refine aw_ialdN rfl rfl ⟨by omega, by omega⟩ ?_
  obtain ⟨i, hi, hpl_i, ht_i⟩ := hx.2.2.2.2.1 j hj
  rw [hpl_i]
  refine aw_go 3 25 [some (.ref 0), some (.int (nI j)), some (.int (nI k))] [.int (nI k), .ref 24, .int (nI i)] (xH lev hel res F FP sta bas obj nx sa kn vu f wa (nI L) cap keys dp ln mk pt sl (nI n) (nI Q) top trs (nI no) ouf en ef gn gf pl) rfl ?_
  refine aw_ialdN rfl rfl ⟨by omega, by omega⟩ ?_
  obtain ⟨i2, hi2, hpl_i2, ht_i2⟩ := hx.2.2.2.2.1 k hk
  rw [hpl_i2]
  refine aw_cmp_ne rfl (fun h26 => ?_) (fun h26 => absurd (by rw [← ht_i, ← ht_i2, nI_inj (by omega) (by omega) h26]) he)
  refine aw_go 1 34 [some (.ref 0), some (.int (nI j)), some (.int (nI k))] [.int 0] (xH lev hel res F FP sta bas obj nx sa kn vu f wa (nI L) cap keys dp ln mk pt sl (nI n) (nI Q) top trs (nI no) ouf en ef gn gf pl) rfl ?_
  exact aw_iret rfl (by decide) rfl ⟨rfl, x_mk hx⟩ rfl (Nat.le_refl _) (Nat.le_refl _) -- [.int 0] (xH lev hel res F FP sta bas obj nx sa kn vu f wa (nI L) cap keys dp ln mk pt sl (nI n) (nI Q) top trs (nI no) ouf en ef gn gf pl)
set_option maxHeartbeats 2000000 in
set_option maxRecDepth 100000 in
theorem c_X_same_n (l : Launch) (lev : Int32) (hel : Int32) (res : Int32) (sta : Nat → Int32) (bas : Nat → Int32) (obj : Nat → Int32) (nx : Int32) (sa : Int32) (kn : Int32) (vu : Int64) (f : Nat → Int32) (wa : Nat → Int32) (cap : Nat) (keys : Nat → Int64) (dp : Nat → Int32) (ln : Nat → Int32) (mk : Nat → Int32) (pt : Nat → Int32) (sl : Nat → Int32) (top : Int32) (trs : Nat → Int32) (ouf : Nat → Int32) (en : Int32) (ef : Nat → Int32) (gn : Int32) (gf : Nat → Int32) (pl : Nat → Int32) (n no Q e0 : Nat) (t : Nat → Tr) (T : Nat → Nat) (L : Nat) (w : Nat → Nat) (P : Nat → Tr) (F FP : Int32) (O : List Nat) (hx : x_in cap n Q e0 t keys dp ln mk sl f wa pl no ouf T L w P O) (p q : Int32) (hno : ¬ (isP p ∧ isP q)) : Con l y_X_same M_X_same 1 20 [.ref 0, .int p, .int q] (xH lev hel res F FP sta bas obj nx sa kn vu f wa (nI L) cap keys dp ln mk pt sl (nI n) (nI Q) top trs (nI no) ouf en ef gn gf pl) 1 0 0 0 (fun r h' => r = some (.int 0) ∧ x_ok cap n Q T L w P F FP O h') := by
  refine Con.ent ok_X_same (by decide +kernel) rfl ?_
  intro pA eA sA mA argsA belowA methA cA GA μA
  refine aw_go 1 1 [some (.ref 0), some (.int p), some (.int q)] [.int p] (xH lev hel res F FP sta bas obj nx sa kn vu f wa (nI L) cap keys dp ln mk pt sl (nI n) (nI Q) top trs (nI no) ouf en ef gn gf pl) rfl ?_
  refine aw_cS [] (c_X_isPl l p) rfl cw_X_74 rfl rfl rfl rfl (Nat.le_refl _) (Nat.le_refl _) (fun r h' hp => ?_)
  rcases hp with ⟨hp_p, rfl, rfl⟩ | ⟨hp_p, rfl, rfl⟩
  · refine aw_go 0 4 [some (.ref 0), some (.int p), some (.int q)] [.int 1] (xH lev hel res F FP sta bas obj nx sa kn vu f wa (nI L) cap keys dp ln mk pt sl (nI n) (nI Q) top trs (nI no) ouf en ef gn gf pl) rfl ?_
    refine aw_if_eq rfl (fun h4 => absurd h4 (by decide)) (fun h4 => ?_)
    refine aw_go 1 8 [some (.ref 0), some (.int p), some (.int q)] [.int q] (xH lev hel res F FP sta bas obj nx sa kn vu f wa (nI L) cap keys dp ln mk pt sl (nI n) (nI Q) top trs (nI no) ouf en ef gn gf pl) rfl ?_
    refine aw_cS [] (c_X_isPl l q) rfl cw_X_74 rfl rfl rfl rfl (Nat.le_refl _) (Nat.le_refl _) (fun r h' hp => ?_)
    rcases hp with ⟨hp_q, rfl, rfl⟩ | ⟨hp_q, rfl, rfl⟩
    · exact absurd ⟨hp_p, hp_q⟩ hno
    · refine aw_go 0 11 [some (.ref 0), some (.int p), some (.int q)] [.int 0] (xH lev hel res F FP sta bas obj nx sa kn vu f wa (nI L) cap keys dp ln mk pt sl (nI n) (nI Q) top trs (nI no) ouf en ef gn gf pl) rfl ?_
      refine aw_if_eq rfl (fun h11 => ?_) (fun h11 => absurd h11 (by decide))
      refine aw_go 1 34 [some (.ref 0), some (.int p), some (.int q)] [.int 0] (xH lev hel res F FP sta bas obj nx sa kn vu f wa (nI L) cap keys dp ln mk pt sl (nI n) (nI Q) top trs (nI no) ouf en ef gn gf pl) rfl ?_
      exact aw_iret rfl (by decide) rfl ⟨rfl, x_mk hx⟩ rfl (Nat.le_refl _) (Nat.le_refl _) -- [.int 0] (xH lev hel res F FP sta bas obj nx sa kn vu f wa (nI L) cap keys dp ln mk pt sl (nI n) (nI Q) top trs (nI no) ouf en ef gn gf pl)
  · refine aw_go 0 4 [some (.ref 0), some (.int p), some (.int q)] [.int 0] (xH lev hel res F FP sta bas obj nx sa kn vu f wa (nI L) cap keys dp ln mk pt sl (nI n) (nI Q) top trs (nI no) ouf en ef gn gf pl) rfl ?_
    refine aw_if_eq rfl (fun h4 => ?_) (fun h4 => absurd h4 (by decide))
    refine aw_go 1 34 [some (.ref 0), some (.int p), some (.int q)] [.int 0] (xH lev hel res F FP sta bas obj nx sa kn vu f wa (nI L) cap keys dp ln mk pt sl (nI n) (nI Q) top trs (nI no) ouf en ef gn gf pl) rfl ?_
    exact aw_iret rfl (by decide) rfl ⟨rfl, x_mk hx⟩ rfl (Nat.le_refl _) (Nat.le_refl _) -- [.int 0] (xH lev hel res F FP sta bas obj nx sa kn vu f wa (nI L) cap keys dp ln mk pt sl (nI n) (nI Q) top trs (nI no) ouf en ef gn gf pl)
set_option maxHeartbeats 2000000 in
set_option maxRecDepth 100000 in
theorem c_X_below_y (l : Launch) (lev : Int32) (hel : Int32) (res : Int32) (sta : Nat → Int32) (bas : Nat → Int32) (obj : Nat → Int32) (nx : Int32) (sa : Int32) (kn : Int32) (vu : Int64) (f : Nat → Int32) (wa : Nat → Int32) (cap : Nat) (keys : Nat → Int64) (dp : Nat → Int32) (ln : Nat → Int32) (mk : Nat → Int32) (pt : Nat → Int32) (sl : Nat → Int32) (top : Int32) (trs : Nat → Int32) (ouf : Nat → Int32) (en : Int32) (ef : Nat → Int32) (gn : Int32) (gf : Nat → Int32) (pl : Nat → Int32) (n no Q e0 : Nat) (t : Nat → Tr) (T : Nat → Nat) (L : Nat) (w : Nat → Nat) (P : Nat → Tr) (F FP : Int32) (O : List Nat) (hx : x_in cap n Q e0 t keys dp ln mk sl f wa pl no ouf T L w P O) (j k : Nat) (hj : j < 8) (hk : k < 8) : Con l y_X_below M_X_below 9 202 [.ref 0, .int (nI j), .int (nI k)] (xH lev hel res F FP sta bas obj nx sa kn vu f wa (nI L) cap keys dp ln mk pt sl (nI n) (nI Q) top trs (nI no) ouf en ef gn gf pl) 1 0 0 0 (fun r h' => r = some (.int (rb (tl_lw (tlb (P j) false) (tlb (P k) false) 200 0))) ∧ x_ok cap n Q T L w P F FP O h') := by
  refine Con.ent ok_X_below (by decide +kernel) rfl ?_
  intro pA eA sA mA argsA belowA methA cA GA μA
  refine aw_go 1 1 [some (.ref 0), some (.int (nI j)), some (.int (nI k))] [.int (nI j)] (xH lev hel res F FP sta bas obj nx sa kn vu f wa (nI L) cap keys dp ln mk pt sl (nI n) (nI Q) top trs (nI no) ouf en ef gn gf pl) rfl ?_
  refine aw_cS [] (c_X_isP1 l j hj) rfl cw_X_74 rfl rfl rfl rfl (Nat.le_refl _) (Nat.le_refl _) (fun r h' hp => ?_)
  obtain ⟨rfl, rfl⟩ := hp
  refine aw_go 0 4 [some (.ref 0), some (.int (nI j)), some (.int (nI k))] [.int 1] (xH lev hel res F FP sta bas obj nx sa kn vu f wa (nI L) cap keys dp ln mk pt sl (nI n) (nI Q) top trs (nI no) ouf en ef gn gf pl) rfl ?_
  refine aw_if_eq rfl (fun h4 => absurd h4 (by decide)) (fun h4 => ?_)
  refine aw_go 1 8 [some (.ref 0), some (.int (nI j)), some (.int (nI k))] [.int (nI k)] (xH lev hel res F FP sta bas obj nx sa kn vu f wa (nI L) cap keys dp ln mk pt sl (nI n) (nI Q) top trs (nI no) ouf en ef gn gf pl) rfl ?_
  refine aw_cS [] (c_X_isP1 l k hk) rfl cw_X_74 rfl rfl rfl rfl (Nat.le_refl _) (Nat.le_refl _) (fun r h' hp => ?_)
  obtain ⟨rfl, rfl⟩ := hp
  refine aw_go 0 11 [some (.ref 0), some (.int (nI j)), some (.int (nI k))] [.int 1] (xH lev hel res F FP sta bas obj nx sa kn vu f wa (nI L) cap keys dp ln mk pt sl (nI n) (nI Q) top trs (nI no) ouf en ef gn gf pl) rfl ?_
  refine aw_if_ne rfl (fun h11 => ?_) (fun h11 => absurd h11 (by decide))
  refine aw_go 7 29 [some (.ref 0), some (.int (nI j)), some (.int (nI k))] [.int (nI j), .ref 24, .ref 20, .ref 16] (xH lev hel res F FP sta bas obj nx sa kn vu f wa (nI L) cap keys dp ln mk pt sl (nI n) (nI Q) top trs (nI no) ouf en ef gn gf pl) rfl ?_
  refine aw_ialdN rfl rfl ⟨by omega, by omega⟩ ?_
  obtain ⟨i, hi, hpl_i, ht_i⟩ := hx.2.2.2.2.1 j hj
  rw [hpl_i]
  refine aw_cV [16, 17, 20, 21, 9, 10, 11, 12, 13, 14, 15] (c_Te_tellOn l cap n keys dp ln mk pt sl (nI Q) e0 t hx.1 200 en ef (by omega) top trs i hi) rfl cw_X_100 rfl rfl rfl rfl rfl rfl (Nat.le_refl _) (Nat.le_refl _) (fun r h' hp => ?_)
  obtain ⟨rfl, op30, rs30, n30, f30, hsh30, rfl⟩ := hp
  rw [ht_i] at hsh30
  refine aw_go 7 46 [some (.ref 0), some (.int (nI j)), some (.int (nI k))] [.int (nI k), .ref 24, .ref 22, .ref 16] (xH lev hel res F FP sta bas obj nx sa kn vu f wa (nI L) cap keys dp ln mk pt sl (nI n) (nI Q) op30 rs30 (nI no) ouf (nI n30) f30 gn gf pl) rfl ?_
  refine aw_ialdN rfl rfl ⟨by omega, by omega⟩ ?_
  obtain ⟨i2, hi2, hpl_i2, ht_i2⟩ := hx.2.2.2.2.1 k hk
  rw [hpl_i2]
  refine aw_cV [16, 17, 22, 23, 9, 10, 11, 12, 13, 14, 15] (c_Te_tellOn l cap n keys dp ln mk pt sl (nI Q) e0 t hx.1 200 gn gf (by omega) op30 rs30 i2 hi2) rfl cw_X_100 rfl rfl rfl rfl rfl rfl (Nat.le_refl _) (Nat.le_refl _) (fun r h' hp => ?_)
  obtain ⟨rfl, op47, rs47, n47, f47, hsh47, rfl⟩ := hp
  rw [ht_i2] at hsh47
  refine aw_go 4 58 [some (.ref 0), some (.int (nI j)), some (.int (nI k))] [.ref 22, .ref 20] (xH lev hel res F FP sta bas obj nx sa kn vu f wa (nI L) cap keys dp ln mk pt sl (nI n) (nI Q) op47 rs47 (nI no) ouf (nI n30) f30 (nI n47) f47 pl) rfl ?_
  refine aw_cV [20, 21, 22, 23] (c_Sh_isLowerThan l n30 n47 f30 f47 (tlb (P j) false) (tlb (P k) false) hsh30 hsh47) rfl cw_X_148 rfl rfl rfl rfl rfl rfl (Nat.le_refl _) (Nat.le_refl _) (fun r h' hp => ?_)
  obtain ⟨rfl, rfl⟩ := hp
  refine aw_go 0 61 [some (.ref 0), some (.int (nI j)), some (.int (nI k))] [.int (rb (tl_lw (tlb (P j) false) (tlb (P k) false) 200 0))] (xH lev hel res F FP sta bas obj nx sa kn vu f wa (nI L) cap keys dp ln mk pt sl (nI n) (nI Q) op47 rs47 (nI no) ouf (nI n30) f30 (nI n47) f47 pl) rfl ?_
  exact aw_iret rfl (by cases tl_lw (tlb (P j) false) (tlb (P k) false) 200 0 <;> decide) rfl ⟨rfl, x_mk hx⟩ rfl (Nat.le_refl _) (Nat.le_refl _) -- [.int (rb (tl_lw (tlb (P j) false) (tlb (P k) false) 200 0))] (xH lev hel res F FP sta bas obj nx sa kn vu f wa (nI L) cap keys dp ln mk pt sl (nI n) (nI Q) op47 rs47 (nI no) ouf (nI n30) f30 (nI n47) f47 pl)
set_option maxHeartbeats 2000000 in
set_option maxRecDepth 100000 in
theorem c_X_below_n (l : Launch) (lev : Int32) (hel : Int32) (res : Int32) (sta : Nat → Int32) (bas : Nat → Int32) (obj : Nat → Int32) (nx : Int32) (sa : Int32) (kn : Int32) (vu : Int64) (f : Nat → Int32) (wa : Nat → Int32) (cap : Nat) (keys : Nat → Int64) (dp : Nat → Int32) (ln : Nat → Int32) (mk : Nat → Int32) (pt : Nat → Int32) (sl : Nat → Int32) (top : Int32) (trs : Nat → Int32) (ouf : Nat → Int32) (en : Int32) (ef : Nat → Int32) (gn : Int32) (gf : Nat → Int32) (pl : Nat → Int32) (n no Q e0 : Nat) (t : Nat → Tr) (T : Nat → Nat) (L : Nat) (w : Nat → Nat) (P : Nat → Tr) (F FP : Int32) (O : List Nat) (hx : x_in cap n Q e0 t keys dp ln mk sl f wa pl no ouf T L w P O) (p q : Int32) (hno : ¬ (isP p ∧ isP q)) : Con l y_X_below M_X_below 9 202 [.ref 0, .int p, .int q] (xH lev hel res F FP sta bas obj nx sa kn vu f wa (nI L) cap keys dp ln mk pt sl (nI n) (nI Q) top trs (nI no) ouf en ef gn gf pl) 1 0 0 0 (fun r h' => r = some (.int 0) ∧ x_ok cap n Q T L w P F FP O h') := by
  refine Con.ent ok_X_below (by decide +kernel) rfl ?_
  intro pA eA sA mA argsA belowA methA cA GA μA
  refine aw_go 1 1 [some (.ref 0), some (.int p), some (.int q)] [.int p] (xH lev hel res F FP sta bas obj nx sa kn vu f wa (nI L) cap keys dp ln mk pt sl (nI n) (nI Q) top trs (nI no) ouf en ef gn gf pl) rfl ?_
  refine aw_cS [] (c_X_isPl l p) rfl cw_X_74 rfl rfl rfl rfl (Nat.le_refl _) (Nat.le_refl _) (fun r h' hp => ?_)
  rcases hp with ⟨hp_p, rfl, rfl⟩ | ⟨hp_p, rfl, rfl⟩
  · refine aw_go 0 4 [some (.ref 0), some (.int p), some (.int q)] [.int 1] (xH lev hel res F FP sta bas obj nx sa kn vu f wa (nI L) cap keys dp ln mk pt sl (nI n) (nI Q) top trs (nI no) ouf en ef gn gf pl) rfl ?_
    refine aw_if_eq rfl (fun h4 => absurd h4 (by decide)) (fun h4 => ?_)
    refine aw_go 1 8 [some (.ref 0), some (.int p), some (.int q)] [.int q] (xH lev hel res F FP sta bas obj nx sa kn vu f wa (nI L) cap keys dp ln mk pt sl (nI n) (nI Q) top trs (nI no) ouf en ef gn gf pl) rfl ?_
    refine aw_cS [] (c_X_isPl l q) rfl cw_X_74 rfl rfl rfl rfl (Nat.le_refl _) (Nat.le_refl _) (fun r h' hp => ?_)
    rcases hp with ⟨hp_q, rfl, rfl⟩ | ⟨hp_q, rfl, rfl⟩
    · exact absurd ⟨hp_p, hp_q⟩ hno
    · refine aw_go 0 11 [some (.ref 0), some (.int p), some (.int q)] [.int 0] (xH lev hel res F FP sta bas obj nx sa kn vu f wa (nI L) cap keys dp ln mk pt sl (nI n) (nI Q) top trs (nI no) ouf en ef gn gf pl) rfl ?_
      refine aw_if_ne rfl (fun h11 => absurd h11 (by decide)) (fun h11 => ?_)
      refine aw_go 1 15 [some (.ref 0), some (.int p), some (.int q)] [.int 0] (xH lev hel res F FP sta bas obj nx sa kn vu f wa (nI L) cap keys dp ln mk pt sl (nI n) (nI Q) top trs (nI no) ouf en ef gn gf pl) rfl ?_
      exact aw_iret rfl (by decide) rfl ⟨rfl, x_mk hx⟩ rfl (Nat.le_refl _) (Nat.le_refl _) -- [.int 0] (xH lev hel res F FP sta bas obj nx sa kn vu f wa (nI L) cap keys dp ln mk pt sl (nI n) (nI Q) top trs (nI no) ouf en ef gn gf pl)
  · refine aw_go 0 4 [some (.ref 0), some (.int p), some (.int q)] [.int 0] (xH lev hel res F FP sta bas obj nx sa kn vu f wa (nI L) cap keys dp ln mk pt sl (nI n) (nI Q) top trs (nI no) ouf en ef gn gf pl) rfl ?_
    refine aw_if_eq rfl (fun h4 => ?_) (fun h4 => absurd h4 (by decide))
    refine aw_go 1 15 [some (.ref 0), some (.int p), some (.int q)] [.int 0] (xH lev hel res F FP sta bas obj nx sa kn vu f wa (nI L) cap keys dp ln mk pt sl (nI n) (nI Q) top trs (nI no) ouf en ef gn gf pl) rfl ?_
    exact aw_iret rfl (by decide) rfl ⟨rfl, x_mk hx⟩ rfl (Nat.le_refl _) (Nat.le_refl _) -- [.int 0] (xH lev hel res F FP sta bas obj nx sa kn vu f wa (nI L) cap keys dp ln mk pt sl (nI n) (nI Q) top trs (nI no) ouf en ef gn gf pl)
set_option maxHeartbeats 2000000 in
set_option maxRecDepth 100000 in
theorem c_X_side_0 (l : Launch) (lev : Int32) (hel : Int32) (res : Int32) (sta : Nat → Int32) (bas : Nat → Int32) (obj : Nat → Int32) (nx : Int32) (sa : Int32) (kn : Int32) (vu : Int64) (f : Nat → Int32) (wa : Nat → Int32) (cap : Nat) (keys : Nat → Int64) (dp : Nat → Int32) (ln : Nat → Int32) (mk : Nat → Int32) (pt : Nat → Int32) (sl : Nat → Int32) (top : Int32) (trs : Nat → Int32) (ouf : Nat → Int32) (en : Int32) (ef : Nat → Int32) (gn : Int32) (gf : Nat → Int32) (pl : Nat → Int32) (n no Q e0 : Nat) (t : Nat → Tr) (T : Nat → Nat) (L : Nat) (w : Nat → Nat) (P : Nat → Tr) (F FP : Int32) (O : List Nat) (hx : x_in cap n Q e0 t keys dp ln mk sl f wa pl no ouf T L w P O) (j m : Nat) (hj : j < 8) (hm : m < 8) (A B : Tr) (hT : P j = .op A B) : Con l y_X_side M_X_side 3 63 [.ref 0, .int (nI j), .int 0, .int (nI m)] (xH lev hel res F FP sta bas obj nx sa kn vu f wa (nI L) cap keys dp ln mk pt sl (nI n) (nI Q) top trs (nI no) ouf en ef gn gf pl) 1 0 0 0 (fun r h' => r = some (.int 1) ∧ x_ok cap n Q T L w (va_up P m A) F FP O h') := by
  refine Con.ent ok_X_side (by decide +kernel) rfl ?_
  intro pA eA sA mA argsA belowA methA cA GA μA
  refine aw_go 1 1 [some (.ref 0), some (.int (nI j)), some (.int 0), some (.int (nI m))] [.int (nI j)] (xH lev hel res F FP sta bas obj nx sa kn vu f wa (nI L) cap keys dp ln mk pt sl (nI n) (nI Q) top trs (nI no) ouf en ef gn gf pl) rfl ?_
  refine aw_cS [] (c_X_isP1 l j hj) rfl cw_X_74 rfl rfl rfl rfl (Nat.le_refl _) (Nat.le_refl _) (fun r h' hp => ?_)
  obtain ⟨rfl, rfl⟩ := hp
  refine aw_go 0 4 [some (.ref 0), some (.int (nI j)), some (.int 0), some (.int (nI m))] [.int 1] (xH lev hel res F FP sta bas obj nx sa kn vu f wa (nI L) cap keys dp ln mk pt sl (nI n) (nI Q) top trs (nI no) ouf en ef gn gf pl) rfl ?_
  refine aw_if_eq rfl (fun h4 => absurd h4 (by decide)) (fun h4 => ?_)
  refine aw_go 1 8 [some (.ref 0), some (.int (nI j)), some (.int 0), some (.int (nI m))] [.int (nI m)] (xH lev hel res F FP sta bas obj nx sa kn vu f wa (nI L) cap keys dp ln mk pt sl (nI n) (nI Q) top trs (nI no) ouf en ef gn gf pl) rfl ?_
  refine aw_cS [] (c_X_isP1 l m hm) rfl cw_X_74 rfl rfl rfl rfl (Nat.le_refl _) (Nat.le_refl _) (fun r h' hp => ?_)
  obtain ⟨rfl, rfl⟩ := hp
  refine aw_go 0 11 [some (.ref 0), some (.int (nI j)), some (.int 0), some (.int (nI m))] [.int 1] (xH lev hel res F FP sta bas obj nx sa kn vu f wa (nI L) cap keys dp ln mk pt sl (nI n) (nI Q) top trs (nI no) ouf en ef gn gf pl) rfl ?_
  refine aw_if_eq rfl (fun h11 => absurd h11 (by decide)) (fun h11 => ?_)
  refine aw_go 1 15 [some (.ref 0), some (.int (nI j)), some (.int 0), some (.int (nI m))] [.int 0] (xH lev hel res F FP sta bas obj nx sa kn vu f wa (nI L) cap keys dp ln mk pt sl (nI n) (nI Q) top trs (nI no) ouf en ef gn gf pl) rfl ?_
  refine aw_if_lt rfl (fun h15 => absurd h15 (by decide)) (fun h15 => ?_)
  refine aw_go 2 20 [some (.ref 0), some (.int (nI j)), some (.int 0), some (.int (nI m))] [.int 1, .int 0] (xH lev hel res F FP sta bas obj nx sa kn vu f wa (nI L) cap keys dp ln mk pt sl (nI n) (nI Q) top trs (nI no) ouf en ef gn gf pl) rfl ?_
  refine aw_cmp_gt rfl (fun h20 => absurd h20 (by decide)) (fun h20 => ?_)
  refine aw_go 5 32 [some (.ref 0), some (.int (nI j)), some (.int 0), some (.int (nI m))] [.int (nI j), .ref 24, .ref 9] (xH lev hel res F FP sta bas obj nx sa kn vu f wa (nI L) cap keys dp ln mk pt sl (nI n) (nI Q) top trs (nI no) ouf en ef gn gf pl) rfl ?_
  refine aw_ialdN rfl rfl ⟨by omega, by omega⟩ ?_
  obtain ⟨i, hi, hpl_i, ht_i⟩ := hx.2.2.2.2.1 j hj
  rw [hpl_i]
  refine aw_cV [9, 10, 11, 12, 13, 14, 15] (c_St_ip l cap n keys dp ln mk pt sl (nI Q) e0 t hx.1 i hi) rfl cw_X_114 rfl rfl rfl rfl rfl rfl (Nat.le_refl _) (Nat.le_refl _) (fun r h' hp => ?_)
  obtain ⟨rfl, rfl⟩ := hp
  rw [ht_i, hT, show rb (tr_isp (.op A B)) = 1 from rfl]
  refine aw_go 0 36 [some (.ref 0), some (.int (nI j)), some (.int 0), some (.int (nI m))] [.int 1] (xH lev hel res F FP sta bas obj nx sa kn vu f wa (nI L) cap keys dp ln mk pt sl (nI n) (nI Q) top trs (nI no) ouf en ef gn gf pl) rfl ?_
  refine aw_if_ne rfl (fun h36 => ?_) (fun h36 => absurd h36 (by decide))
  refine aw_go 4 47 [some (.ref 0), some (.int (nI j)), some (.int 0), some (.int (nI m))] [.int 0, .int (nI m), .ref 24] (xH lev hel res F FP sta bas obj nx sa kn vu f wa (nI L) cap keys dp ln mk pt sl (nI n) (nI Q) top trs (nI no) ouf en ef gn gf pl) rfl ?_
  refine aw_if_ne rfl (fun h47 => absurd h47 (by decide)) (fun h47 => ?_)
  refine aw_go 5 59 [some (.ref 0), some (.int (nI j)), some (.int 0), some (.int (nI m))] [.int (nI j), .ref 24, .ref 9, .int (nI m), .ref 24] (xH lev hel res F FP sta bas obj nx sa kn vu f wa (nI L) cap keys dp ln mk pt sl (nI n) (nI Q) top trs (nI no) ouf en ef gn gf pl) rfl ?_
  refine aw_ialdN rfl rfl ⟨by omega, by omega⟩ ?_
  rw [hpl_i]
  refine aw_cV [9, 10, 11, 12, 13, 14, 15] (c_St_fst l cap n keys dp ln mk pt sl (nI Q) e0 t hx.1 i hi A B (by rw [ht_i]; exact hT)) rfl cw_X_117 rfl rfl rfl rfl rfl rfl (Nat.le_refl _) (Nat.le_refl _) (fun r h' hp => ?_)
  obtain ⟨a, hai, ha, rfl, rfl⟩ := hp
  refine aw_go 1 79 [some (.ref 0), some (.int (nI j)), some (.int 0), some (.int (nI m))] [.int (nI a), .int (nI m), .ref 24] (xH lev hel res F FP sta bas obj nx sa kn vu f wa (nI L) cap keys dp ln mk pt sl (nI n) (nI Q) top trs (nI no) ouf en ef gn gf pl) rfl ?_
  refine aw_iastN rfl rfl ⟨by omega, by omega⟩ ?_
  refine aw_go 1 81 [some (.ref 0), some (.int (nI j)), some (.int 0), some (.int (nI m))] [.int 1] (xH lev hel res F FP sta bas obj nx sa kn vu f wa (nI L) cap keys dp ln mk pt sl (nI n) (nI Q) top trs (nI no) ouf en ef gn gf (upd pl m (nI a))) rfl ?_
  exact aw_iret rfl (by decide) rfl ⟨rfl, x_mk ⟨hx.1, hx.2.1, hx.2.2.1, hx.2.2.2.1, pl_up hx.2.2.2.2.1 ⟨a, by omega, rfl, ha⟩, hx.2.2.2.2.2⟩⟩ rfl (Nat.le_refl _) (Nat.le_refl _) -- [.int 1] (xH lev hel res F FP sta bas obj nx sa kn vu f wa (nI L) cap keys dp ln mk pt sl (nI n) (nI Q) top trs (nI no) ouf en ef gn gf (upd pl m (nI a)))
set_option maxHeartbeats 2000000 in
set_option maxRecDepth 100000 in
theorem c_X_side_1 (l : Launch) (lev : Int32) (hel : Int32) (res : Int32) (sta : Nat → Int32) (bas : Nat → Int32) (obj : Nat → Int32) (nx : Int32) (sa : Int32) (kn : Int32) (vu : Int64) (f : Nat → Int32) (wa : Nat → Int32) (cap : Nat) (keys : Nat → Int64) (dp : Nat → Int32) (ln : Nat → Int32) (mk : Nat → Int32) (pt : Nat → Int32) (sl : Nat → Int32) (top : Int32) (trs : Nat → Int32) (ouf : Nat → Int32) (en : Int32) (ef : Nat → Int32) (gn : Int32) (gf : Nat → Int32) (pl : Nat → Int32) (n no Q e0 : Nat) (t : Nat → Tr) (T : Nat → Nat) (L : Nat) (w : Nat → Nat) (P : Nat → Tr) (F FP : Int32) (O : List Nat) (hx : x_in cap n Q e0 t keys dp ln mk sl f wa pl no ouf T L w P O) (j m : Nat) (hj : j < 8) (hm : m < 8) (A B : Tr) (hT : P j = .op A B) : Con l y_X_side M_X_side 3 63 [.ref 0, .int (nI j), .int 1, .int (nI m)] (xH lev hel res F FP sta bas obj nx sa kn vu f wa (nI L) cap keys dp ln mk pt sl (nI n) (nI Q) top trs (nI no) ouf en ef gn gf pl) 1 0 0 0 (fun r h' => r = some (.int 1) ∧ x_ok cap n Q T L w (va_up P m B) F FP O h') := by
  refine Con.ent ok_X_side (by decide +kernel) rfl ?_
  intro pA eA sA mA argsA belowA methA cA GA μA
  refine aw_go 1 1 [some (.ref 0), some (.int (nI j)), some (.int 1), some (.int (nI m))] [.int (nI j)] (xH lev hel res F FP sta bas obj nx sa kn vu f wa (nI L) cap keys dp ln mk pt sl (nI n) (nI Q) top trs (nI no) ouf en ef gn gf pl) rfl ?_
  refine aw_cS [] (c_X_isP1 l j hj) rfl cw_X_74 rfl rfl rfl rfl (Nat.le_refl _) (Nat.le_refl _) (fun r h' hp => ?_)
  obtain ⟨rfl, rfl⟩ := hp
  refine aw_go 0 4 [some (.ref 0), some (.int (nI j)), some (.int 1), some (.int (nI m))] [.int 1] (xH lev hel res F FP sta bas obj nx sa kn vu f wa (nI L) cap keys dp ln mk pt sl (nI n) (nI Q) top trs (nI no) ouf en ef gn gf pl) rfl ?_
  refine aw_if_eq rfl (fun h4 => absurd h4 (by decide)) (fun h4 => ?_)
  refine aw_go 1 8 [some (.ref 0), some (.int (nI j)), some (.int 1), some (.int (nI m))] [.int (nI m)] (xH lev hel res F FP sta bas obj nx sa kn vu f wa (nI L) cap keys dp ln mk pt sl (nI n) (nI Q) top trs (nI no) ouf en ef gn gf pl) rfl ?_
  refine aw_cS [] (c_X_isP1 l m hm) rfl cw_X_74 rfl rfl rfl rfl (Nat.le_refl _) (Nat.le_refl _) (fun r h' hp => ?_)
  obtain ⟨rfl, rfl⟩ := hp
  refine aw_go 0 11 [some (.ref 0), some (.int (nI j)), some (.int 1), some (.int (nI m))] [.int 1] (xH lev hel res F FP sta bas obj nx sa kn vu f wa (nI L) cap keys dp ln mk pt sl (nI n) (nI Q) top trs (nI no) ouf en ef gn gf pl) rfl ?_
  refine aw_if_eq rfl (fun h11 => absurd h11 (by decide)) (fun h11 => ?_)
  refine aw_go 1 15 [some (.ref 0), some (.int (nI j)), some (.int 1), some (.int (nI m))] [.int 1] (xH lev hel res F FP sta bas obj nx sa kn vu f wa (nI L) cap keys dp ln mk pt sl (nI n) (nI Q) top trs (nI no) ouf en ef gn gf pl) rfl ?_
  refine aw_if_lt rfl (fun h15 => absurd h15 (by decide)) (fun h15 => ?_)
  refine aw_go 2 20 [some (.ref 0), some (.int (nI j)), some (.int 1), some (.int (nI m))] [.int 1, .int 1] (xH lev hel res F FP sta bas obj nx sa kn vu f wa (nI L) cap keys dp ln mk pt sl (nI n) (nI Q) top trs (nI no) ouf en ef gn gf pl) rfl ?_
  refine aw_cmp_gt rfl (fun h20 => absurd h20 (by decide)) (fun h20 => ?_)
  refine aw_go 5 32 [some (.ref 0), some (.int (nI j)), some (.int 1), some (.int (nI m))] [.int (nI j), .ref 24, .ref 9] (xH lev hel res F FP sta bas obj nx sa kn vu f wa (nI L) cap keys dp ln mk pt sl (nI n) (nI Q) top trs (nI no) ouf en ef gn gf pl) rfl ?_
  refine aw_ialdN rfl rfl ⟨by omega, by omega⟩ ?_
  obtain ⟨i, hi, hpl_i, ht_i⟩ := hx.2.2.2.2.1 j hj
  rw [hpl_i]
  refine aw_cV [9, 10, 11, 12, 13, 14, 15] (c_St_ip l cap n keys dp ln mk pt sl (nI Q) e0 t hx.1 i hi) rfl cw_X_114 rfl rfl rfl rfl rfl rfl (Nat.le_refl _) (Nat.le_refl _) (fun r h' hp => ?_)
  obtain ⟨rfl, rfl⟩ := hp
  rw [ht_i, hT, show rb (tr_isp (.op A B)) = 1 from rfl]
  refine aw_go 0 36 [some (.ref 0), some (.int (nI j)), some (.int 1), some (.int (nI m))] [.int 1] (xH lev hel res F FP sta bas obj nx sa kn vu f wa (nI L) cap keys dp ln mk pt sl (nI n) (nI Q) top trs (nI no) ouf en ef gn gf pl) rfl ?_
  refine aw_if_ne rfl (fun h36 => ?_) (fun h36 => absurd h36 (by decide))
  refine aw_go 4 47 [some (.ref 0), some (.int (nI j)), some (.int 1), some (.int (nI m))] [.int 1, .int (nI m), .ref 24] (xH lev hel res F FP sta bas obj nx sa kn vu f wa (nI L) cap keys dp ln mk pt sl (nI n) (nI Q) top trs (nI no) ouf en ef gn gf pl) rfl ?_
  refine aw_if_ne rfl (fun h47 => ?_) (fun h47 => absurd h47 (by decide))
  refine aw_go 5 75 [some (.ref 0), some (.int (nI j)), some (.int 1), some (.int (nI m))] [.int (nI j), .ref 24, .ref 9, .int (nI m), .ref 24] (xH lev hel res F FP sta bas obj nx sa kn vu f wa (nI L) cap keys dp ln mk pt sl (nI n) (nI Q) top trs (nI no) ouf en ef gn gf pl) rfl ?_
  refine aw_ialdN rfl rfl ⟨by omega, by omega⟩ ?_
  rw [hpl_i]
  refine aw_cV [9, 10, 11, 12, 13, 14, 15] (c_St_snd l cap n keys dp ln mk pt sl (nI Q) e0 t hx.1 i hi A B (by rw [ht_i]; exact hT)) rfl cw_X_120 rfl rfl rfl rfl rfl rfl (Nat.le_refl _) (Nat.le_refl _) (fun r h' hp => ?_)
  obtain ⟨a, hai, ha, rfl, rfl⟩ := hp
  refine aw_go 0 79 [some (.ref 0), some (.int (nI j)), some (.int 1), some (.int (nI m))] [.int (nI a), .int (nI m), .ref 24] (xH lev hel res F FP sta bas obj nx sa kn vu f wa (nI L) cap keys dp ln mk pt sl (nI n) (nI Q) top trs (nI no) ouf en ef gn gf pl) rfl ?_
  refine aw_iastN rfl rfl ⟨by omega, by omega⟩ ?_
  refine aw_go 1 81 [some (.ref 0), some (.int (nI j)), some (.int 1), some (.int (nI m))] [.int 1] (xH lev hel res F FP sta bas obj nx sa kn vu f wa (nI L) cap keys dp ln mk pt sl (nI n) (nI Q) top trs (nI no) ouf en ef gn gf (upd pl m (nI a))) rfl ?_
  exact aw_iret rfl (by decide) rfl ⟨rfl, x_mk ⟨hx.1, hx.2.1, hx.2.2.1, hx.2.2.2.1, pl_up hx.2.2.2.2.1 ⟨a, by omega, rfl, ha⟩, hx.2.2.2.2.2⟩⟩ rfl (Nat.le_refl _) (Nat.le_refl _) -- [.int 1] (xH lev hel res F FP sta bas obj nx sa kn vu f wa (nI L) cap keys dp ln mk pt sl (nI n) (nI Q) top trs (nI no) ouf en ef gn gf (upd pl m (nI a)))
set_option maxHeartbeats 2000000 in
set_option maxRecDepth 100000 in
theorem c_X_side_n (l : Launch) (lev : Int32) (hel : Int32) (res : Int32) (sta : Nat → Int32) (bas : Nat → Int32) (obj : Nat → Int32) (nx : Int32) (sa : Int32) (kn : Int32) (vu : Int64) (f : Nat → Int32) (wa : Nat → Int32) (cap : Nat) (keys : Nat → Int64) (dp : Nat → Int32) (ln : Nat → Int32) (mk : Nat → Int32) (pt : Nat → Int32) (sl : Nat → Int32) (top : Int32) (trs : Nat → Int32) (ouf : Nat → Int32) (en : Int32) (ef : Nat → Int32) (gn : Int32) (gf : Nat → Int32) (pl : Nat → Int32) (n no Q e0 : Nat) (t : Nat → Tr) (T : Nat → Nat) (L : Nat) (w : Nat → Nat) (P : Nat → Tr) (F FP : Int32) (O : List Nat) (hx : x_in cap n Q e0 t keys dp ln mk sl f wa pl no ouf T L w P O) (p x q : Int32) (hno : ¬ (isP p ∧ isP q)) : Con l y_X_side M_X_side 3 63 [.ref 0, .int p, .int x, .int q] (xH lev hel res F FP sta bas obj nx sa kn vu f wa (nI L) cap keys dp ln mk pt sl (nI n) (nI Q) top trs (nI no) ouf en ef gn gf pl) 1 0 0 0 (fun r h' => r = some (.int 0) ∧ x_ok cap n Q T L w P F FP O h') := by
  refine Con.ent ok_X_side (by decide +kernel) rfl ?_
  intro pA eA sA mA argsA belowA methA cA GA μA
  refine aw_go 1 1 [some (.ref 0), some (.int p), some (.int x), some (.int q)] [.int p] (xH lev hel res F FP sta bas obj nx sa kn vu f wa (nI L) cap keys dp ln mk pt sl (nI n) (nI Q) top trs (nI no) ouf en ef gn gf pl) rfl ?_
  refine aw_cS [] (c_X_isPl l p) rfl cw_X_74 rfl rfl rfl rfl (Nat.le_refl _) (Nat.le_refl _) (fun r h' hp => ?_)
  rcases hp with ⟨hp_p, rfl, rfl⟩ | ⟨hp_p, rfl, rfl⟩
  · refine aw_go 0 4 [some (.ref 0), some (.int p), some (.int x), some (.int q)] [.int 1] (xH lev hel res F FP sta bas obj nx sa kn vu f wa (nI L) cap keys dp ln mk pt sl (nI n) (nI Q) top trs (nI no) ouf en ef gn gf pl) rfl ?_
    refine aw_if_eq rfl (fun h4 => absurd h4 (by decide)) (fun h4 => ?_)
    refine aw_go 1 8 [some (.ref 0), some (.int p), some (.int x), some (.int q)] [.int q] (xH lev hel res F FP sta bas obj nx sa kn vu f wa (nI L) cap keys dp ln mk pt sl (nI n) (nI Q) top trs (nI no) ouf en ef gn gf pl) rfl ?_
    refine aw_cS [] (c_X_isPl l q) rfl cw_X_74 rfl rfl rfl rfl (Nat.le_refl _) (Nat.le_refl _) (fun r h' hp => ?_)
    rcases hp with ⟨hp_q, rfl, rfl⟩ | ⟨hp_q, rfl, rfl⟩
    · exact absurd ⟨hp_p, hp_q⟩ hno
    · refine aw_go 0 11 [some (.ref 0), some (.int p), some (.int x), some (.int q)] [.int 0] (xH lev hel res F FP sta bas obj nx sa kn vu f wa (nI L) cap keys dp ln mk pt sl (nI n) (nI Q) top trs (nI no) ouf en ef gn gf pl) rfl ?_
      refine aw_if_eq rfl (fun h11 => ?_) (fun h11 => absurd h11 (by decide))
      refine aw_go 1 40 [some (.ref 0), some (.int p), some (.int x), some (.int q)] [.int 0] (xH lev hel res F FP sta bas obj nx sa kn vu f wa (nI L) cap keys dp ln mk pt sl (nI n) (nI Q) top trs (nI no) ouf en ef gn gf pl) rfl ?_
      exact aw_iret rfl (by decide) rfl ⟨rfl, x_mk hx⟩ rfl (Nat.le_refl _) (Nat.le_refl _) -- [.int 0] (xH lev hel res F FP sta bas obj nx sa kn vu f wa (nI L) cap keys dp ln mk pt sl (nI n) (nI Q) top trs (nI no) ouf en ef gn gf pl)
  · refine aw_go 0 4 [some (.ref 0), some (.int p), some (.int x), some (.int q)] [.int 0] (xH lev hel res F FP sta bas obj nx sa kn vu f wa (nI L) cap keys dp ln mk pt sl (nI n) (nI Q) top trs (nI no) ouf en ef gn gf pl) rfl ?_
    refine aw_if_eq rfl (fun h4 => ?_) (fun h4 => absurd h4 (by decide))
    refine aw_go 1 40 [some (.ref 0), some (.int p), some (.int x), some (.int q)] [.int 0] (xH lev hel res F FP sta bas obj nx sa kn vu f wa (nI L) cap keys dp ln mk pt sl (nI n) (nI Q) top trs (nI no) ouf en ef gn gf pl) rfl ?_
    exact aw_iret rfl (by decide) rfl ⟨rfl, x_mk hx⟩ rfl (Nat.le_refl _) (Nat.le_refl _) -- [.int 0] (xH lev hel res F FP sta bas obj nx sa kn vu f wa (nI L) cap keys dp ln mk pt sl (nI n) (nI Q) top trs (nI no) ouf en ef gn gf pl)
set_option maxHeartbeats 2000000 in
set_option maxRecDepth 100000 in
theorem c_X_side_w (l : Launch) (lev : Int32) (hel : Int32) (res : Int32) (sta : Nat → Int32) (bas : Nat → Int32) (obj : Nat → Int32) (nx : Int32) (sa : Int32) (kn : Int32) (vu : Int64) (f : Nat → Int32) (wa : Nat → Int32) (cap : Nat) (keys : Nat → Int64) (dp : Nat → Int32) (ln : Nat → Int32) (mk : Nat → Int32) (pt : Nat → Int32) (sl : Nat → Int32) (top : Int32) (trs : Nat → Int32) (ouf : Nat → Int32) (en : Int32) (ef : Nat → Int32) (gn : Int32) (gf : Nat → Int32) (pl : Nat → Int32) (n no Q e0 : Nat) (t : Nat → Tr) (T : Nat → Nat) (L : Nat) (w : Nat → Nat) (P : Nat → Tr) (F FP : Int32) (O : List Nat) (hx : x_in cap n Q e0 t keys dp ln mk sl f wa pl no ouf T L w P O) (j m : Nat) (hj : j < 8) (hm : m < 8) (x : Int32) (h0 : x ≠ 0) (h1 : x ≠ 1) : Con l y_X_side M_X_side 3 63 [.ref 0, .int (nI j), .int x, .int (nI m)] (xH lev hel res F FP sta bas obj nx sa kn vu f wa (nI L) cap keys dp ln mk pt sl (nI n) (nI Q) top trs (nI no) ouf en ef gn gf pl) 1 0 0 0 (fun r h' => r = some (.int 0) ∧ x_ok cap n Q T L w P F FP O h') := by
  refine Con.ent ok_X_side (by decide +kernel) rfl ?_
  intro pA eA sA mA argsA belowA methA cA GA μA
  refine aw_go 1 1 [some (.ref 0), some (.int (nI j)), some (.int x), some (.int (nI m))] [.int (nI j)] (xH lev hel res F FP sta bas obj nx sa kn vu f wa (nI L) cap keys dp ln mk pt sl (nI n) (nI Q) top trs (nI no) ouf en ef gn gf pl) rfl ?_
  refine aw_cS [] (c_X_isP1 l j hj) rfl cw_X_74 rfl rfl rfl rfl (Nat.le_refl _) (Nat.le_refl _) (fun r h' hp => ?_)
  obtain ⟨rfl, rfl⟩ := hp
  refine aw_go 0 4 [some (.ref 0), some (.int (nI j)), some (.int x), some (.int (nI m))] [.int 1] (xH lev hel res F FP sta bas obj nx sa kn vu f wa (nI L) cap keys dp ln mk pt sl (nI n) (nI Q) top trs (nI no) ouf en ef gn gf pl) rfl ?_
  refine aw_if_eq rfl (fun h4 => absurd h4 (by decide)) (fun h4 => ?_)
  refine aw_go 1 8 [some (.ref 0), some (.int (nI j)), some (.int x), some (.int (nI m))] [.int (nI m)] (xH lev hel res F FP sta bas obj nx sa kn vu f wa (nI L) cap keys dp ln mk pt sl (nI n) (nI Q) top trs (nI no) ouf en ef gn gf pl) rfl ?_
  refine aw_cS [] (c_X_isP1 l m hm) rfl cw_X_74 rfl rfl rfl rfl (Nat.le_refl _) (Nat.le_refl _) (fun r h' hp => ?_)
  obtain ⟨rfl, rfl⟩ := hp
  refine aw_go 0 11 [some (.ref 0), some (.int (nI j)), some (.int x), some (.int (nI m))] [.int 1] (xH lev hel res F FP sta bas obj nx sa kn vu f wa (nI L) cap keys dp ln mk pt sl (nI n) (nI Q) top trs (nI no) ouf en ef gn gf pl) rfl ?_
  refine aw_if_eq rfl (fun h11 => absurd h11 (by decide)) (fun h11 => ?_)
  refine aw_go 1 15 [some (.ref 0), some (.int (nI j)), some (.int x), some (.int (nI m))] [.int x] (xH lev hel res F FP sta bas obj nx sa kn vu f wa (nI L) cap keys dp ln mk pt sl (nI n) (nI Q) top trs (nI no) ouf en ef gn gf pl) rfl ?_
  refine aw_if_lt rfl (fun h15 => ?_) (fun h15 => ?_)
  · refine aw_go 1 40 [some (.ref 0), some (.int (nI j)), some (.int x), some (.int (nI m))] [.int 0] (xH lev hel res F FP sta bas obj nx sa kn vu f wa (nI L) cap keys dp ln mk pt sl (nI n) (nI Q) top trs (nI no) ouf en ef gn gf pl) rfl ?_
    exact aw_iret rfl (by decide) rfl ⟨rfl, x_mk hx⟩ rfl (Nat.le_refl _) (Nat.le_refl _) -- [.int 0] (xH lev hel res F FP sta bas obj nx sa kn vu f wa (nI L) cap keys dp ln mk pt sl (nI n) (nI Q) top trs (nI no) ouf en ef gn gf pl)
  · refine aw_go 2 20 [some (.ref 0), some (.int (nI j)), some (.int x), some (.int (nI m))] [.int 1, .int x] (xH lev hel res F FP sta bas obj nx sa kn vu f wa (nI L) cap keys dp ln mk pt sl (nI n) (nI Q) top trs (nI no) ouf en ef gn gf pl) rfl ?_
    refine aw_cmp_gt rfl (fun h20 => ?_) (fun h20 => absurd (sd_w h0 h1 h15) h20)
    refine aw_go 1 40 [some (.ref 0), some (.int (nI j)), some (.int x), some (.int (nI m))] [.int 0] (xH lev hel res F FP sta bas obj nx sa kn vu f wa (nI L) cap keys dp ln mk pt sl (nI n) (nI Q) top trs (nI no) ouf en ef gn gf pl) rfl ?_
    exact aw_iret rfl (by decide) rfl ⟨rfl, x_mk hx⟩ rfl (Nat.le_refl _) (Nat.le_refl _) -- [.int 0] (xH lev hel res F FP sta bas obj nx sa kn vu f wa (nI L) cap keys dp ln mk pt sl (nI n) (nI Q) top trs (nI no) ouf en ef gn gf pl)
set_option maxHeartbeats 2000000 in
set_option maxRecDepth 100000 in
theorem c_X_side_a (l : Launch) (lev : Int32) (hel : Int32) (res : Int32) (sta : Nat → Int32) (bas : Nat → Int32) (obj : Nat → Int32) (nx : Int32) (sa : Int32) (kn : Int32) (vu : Int64) (f : Nat → Int32) (wa : Nat → Int32) (cap : Nat) (keys : Nat → Int64) (dp : Nat → Int32) (ln : Nat → Int32) (mk : Nat → Int32) (pt : Nat → Int32) (sl : Nat → Int32) (top : Int32) (trs : Nat → Int32) (ouf : Nat → Int32) (en : Int32) (ef : Nat → Int32) (gn : Int32) (gf : Nat → Int32) (pl : Nat → Int32) (n no Q e0 : Nat) (t : Nat → Tr) (T : Nat → Nat) (L : Nat) (w : Nat → Nat) (P : Nat → Tr) (F FP : Int32) (O : List Nat) (hx : x_in cap n Q e0 t keys dp ln mk sl f wa pl no ouf T L w P O) (j m : Nat) (hj : j < 8) (hm : m < 8) (x : Int32) (hT : tr_isp (P j) = false) : Con l y_X_side M_X_side 3 63 [.ref 0, .int (nI j), .int x, .int (nI m)] (xH lev hel res F FP sta bas obj nx sa kn vu f wa (nI L) cap keys dp ln mk pt sl (nI n) (nI Q) top trs (nI no) ouf en ef gn gf pl) 1 0 0 0 (fun r h' => r = some (.int 0) ∧ x_ok cap n Q T L w P F FP O h') := by
  refine Con.ent ok_X_side (by decide +kernel) rfl ?_
  intro pA eA sA mA argsA belowA methA cA GA μA
  refine aw_go 1 1 [some (.ref 0), some (.int (nI j)), some (.int x), some (.int (nI m))] [.int (nI j)] (xH lev hel res F FP sta bas obj nx sa kn vu f wa (nI L) cap keys dp ln mk pt sl (nI n) (nI Q) top trs (nI no) ouf en ef gn gf pl) rfl ?_
  refine aw_cS [] (c_X_isP1 l j hj) rfl cw_X_74 rfl rfl rfl rfl (Nat.le_refl _) (Nat.le_refl _) (fun r h' hp => ?_)
  obtain ⟨rfl, rfl⟩ := hp
  refine aw_go 0 4 [some (.ref 0), some (.int (nI j)), some (.int x), some (.int (nI m))] [.int 1] (xH lev hel res F FP sta bas obj nx sa kn vu f wa (nI L) cap keys dp ln mk pt sl (nI n) (nI Q) top trs (nI no) ouf en ef gn gf pl) rfl ?_
  refine aw_if_eq rfl (fun h4 => absurd h4 (by decide)) (fun h4 => ?_)
  refine aw_go 1 8 [some (.ref 0), some (.int (nI j)), some (.int x), some (.int (nI m))] [.int (nI m)] (xH lev hel res F FP sta bas obj nx sa kn vu f wa (nI L) cap keys dp ln mk pt sl (nI n) (nI Q) top trs (nI no) ouf en ef gn gf pl) rfl ?_
  refine aw_cS [] (c_X_isP1 l m hm) rfl cw_X_74 rfl rfl rfl rfl (Nat.le_refl _) (Nat.le_refl _) (fun r h' hp => ?_)
  obtain ⟨rfl, rfl⟩ := hp
  refine aw_go 0 11 [some (.ref 0), some (.int (nI j)), some (.int x), some (.int (nI m))] [.int 1] (xH lev hel res F FP sta bas obj nx sa kn vu f wa (nI L) cap keys dp ln mk pt sl (nI n) (nI Q) top trs (nI no) ouf en ef gn gf pl) rfl ?_
  refine aw_if_eq rfl (fun h11 => absurd h11 (by decide)) (fun h11 => ?_)
  refine aw_go 1 15 [some (.ref 0), some (.int (nI j)), some (.int x), some (.int (nI m))] [.int x] (xH lev hel res F FP sta bas obj nx sa kn vu f wa (nI L) cap keys dp ln mk pt sl (nI n) (nI Q) top trs (nI no) ouf en ef gn gf pl) rfl ?_
  refine aw_if_lt rfl (fun h15 => ?_) (fun h15 => ?_)
  · refine aw_go 1 40 [some (.ref 0), some (.int (nI j)), some (.int x), some (.int (nI m))] [.int 0] (xH lev hel res F FP sta bas obj nx sa kn vu f wa (nI L) cap keys dp ln mk pt sl (nI n) (nI Q) top trs (nI no) ouf en ef gn gf pl) rfl ?_
    exact aw_iret rfl (by decide) rfl ⟨rfl, x_mk hx⟩ rfl (Nat.le_refl _) (Nat.le_refl _) -- [.int 0] (xH lev hel res F FP sta bas obj nx sa kn vu f wa (nI L) cap keys dp ln mk pt sl (nI n) (nI Q) top trs (nI no) ouf en ef gn gf pl)
  · refine aw_go 2 20 [some (.ref 0), some (.int (nI j)), some (.int x), some (.int (nI m))] [.int 1, .int x] (xH lev hel res F FP sta bas obj nx sa kn vu f wa (nI L) cap keys dp ln mk pt sl (nI n) (nI Q) top trs (nI no) ouf en ef gn gf pl) rfl ?_
    refine aw_cmp_gt rfl (fun h20 => ?_) (fun h20 => ?_)
    · refine aw_go 1 40 [some (.ref 0), some (.int (nI j)), some (.int x), some (.int (nI m))] [.int 0] (xH lev hel res F FP sta bas obj nx sa kn vu f wa (nI L) cap keys dp ln mk pt sl (nI n) (nI Q) top trs (nI no) ouf en ef gn gf pl) rfl ?_
      exact aw_iret rfl (by decide) rfl ⟨rfl, x_mk hx⟩ rfl (Nat.le_refl _) (Nat.le_refl _) -- [.int 0] (xH lev hel res F FP sta bas obj nx sa kn vu f wa (nI L) cap keys dp ln mk pt sl (nI n) (nI Q) top trs (nI no) ouf en ef gn gf pl)
    · refine aw_go 5 32 [some (.ref 0), some (.int (nI j)), some (.int x), some (.int (nI m))] [.int (nI j), .ref 24, .ref 9] (xH lev hel res F FP sta bas obj nx sa kn vu f wa (nI L) cap keys dp ln mk pt sl (nI n) (nI Q) top trs (nI no) ouf en ef gn gf pl) rfl ?_
      refine aw_ialdN rfl rfl ⟨by omega, by omega⟩ ?_
      obtain ⟨i, hi, hpl_i, ht_i⟩ := hx.2.2.2.2.1 j hj
      rw [hpl_i]
      refine aw_cV [9, 10, 11, 12, 13, 14, 15] (c_St_ip l cap n keys dp ln mk pt sl (nI Q) e0 t hx.1 i hi) rfl cw_X_114 rfl rfl rfl rfl rfl rfl (Nat.le_refl _) (Nat.le_refl _) (fun r h' hp => ?_)
      obtain ⟨rfl, rfl⟩ := hp
      rw [ht_i, hT, show rb false = 0 from rfl]
      refine aw_go 0 36 [some (.ref 0), some (.int (nI j)), some (.int x), some (.int (nI m))] [.int 0] (xH lev hel res F FP sta bas obj nx sa kn vu f wa (nI L) cap keys dp ln mk pt sl (nI n) (nI Q) top trs (nI no) ouf en ef gn gf pl) rfl ?_
      refine aw_if_ne rfl (fun h36 => absurd h36 (by decide)) (fun h36 => ?_)
      refine aw_go 1 40 [some (.ref 0), some (.int (nI j)), some (.int x), some (.int (nI m))] [.int 0] (xH lev hel res F FP sta bas obj nx sa kn vu f wa (nI L) cap keys dp ln mk pt sl (nI n) (nI Q) top trs (nI no) ouf en ef gn gf pl) rfl ?_
      exact aw_iret rfl (by decide) rfl ⟨rfl, x_mk hx⟩ rfl (Nat.le_refl _) (Nat.le_refl _) -- [.int 0] (xH lev hel res F FP sta bas obj nx sa kn vu f wa (nI L) cap keys dp ln mk pt sl (nI n) (nI Q) top trs (nI no) ouf en ef gn gf pl)
