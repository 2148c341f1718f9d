/-! Store: numberOf -/
theorem c_St_has0 (l : Launch) (cap n : Nat) (keys : Nat → Int64) (dp ln mk pt sl : Nat → Int32) (mark : Int32) : Con l y_St_has M_St_has 0 0 [.ref 0, .int (-1)] (stH cap keys dp ln mk pt sl (nI n) mark) 7 0 0 0 (fun r h' => r = some (.int 0) ∧ h' = stH cap keys dp ln mk pt sl (nI n) mark) := by
  have h := c_St_has l cap n keys dp ln mk pt sl mark (-1)
  rw [if_pos (by decide)] at h
  exact h
set_option maxHeartbeats 2000000 in
set_option maxRecDepth 100000 in
theorem c_St_numberOf (l : Launch) (cap n : Nat) (keys : Nat → Int64) (dp ln mk pt sl : Nat → Int32) (mark : Int32) (v k : Nat) (dep len : Int32) (e0 : Nat) (h : st_tb cap n e0 keys sl) (hv : v < 4611686018427387904) (hk : k < 4) (hn : n < cap) : Con l y_St_numberOf M_St_numberOf 1 26 [.ref 0, .int (nI k), .long (lN v), .int dep, .int len] (stH cap keys dp ln mk pt sl (nI n) mark) 7 0 0 0 (fun r h' => (∃ j, j < n ∧ keys j = lN (4 * v + k) ∧ r = some (.int (nI j)) ∧ h' = stH cap keys dp ln mk pt sl (nI n) mark) ∨ ((∀ j, j < n → keys j ≠ lN (4 * v + k)) ∧ r = some (.int (nI n)) ∧ ∃ sl2, st_tb cap (n + 1) e0 (vp_updL keys n (lN (4 * v + k))) sl2 ∧ h' = stH cap (vp_updL keys n (lN (4 * v + k))) (upd dp n dep) (upd ln n len) mk pt sl2 (nI (n + 1)) mark)) := by
  refine Con.ent ok_St_numberOf (by decide +kernel) rfl ?_
  intro pA eA sA mA argsA belowA methA cA GA μA
  have hc := h.cap
  refine aw_go 9 11 [some (.ref 0), some (.int (nI k)), some (.long (lN v)), none, some (.int dep), some (.int len), some (.long (((lN v) <<< (Int32.toInt64 2 &&& 63)) ||| (Int32.toInt64 (nI k)))), none, none] [.long (((lN v) <<< (Int32.toInt64 2 &&& 63)) ||| (Int32.toInt64 (nI k))), .ref 0] (stH cap keys dp ln mk pt sl (nI n) mark) rfl ?_
  rw [lg_key hv hk]
  refine aw_cV [0, 1, 2, 3, 4, 5, 6] (c_St_slotOf l cap n keys dp ln mk pt sl mark (lN (4 * v + k)) e0 h.1 h.2.1 h.2.2.1) rfl cw_St_105 rfl rfl rfl rfl rfl rfl (Nat.le_refl _) (Nat.le_refl _) (fun r h' hp => ?_)
  obtain ⟨hs0, rfl⟩ := hp
  rcases hs0 with ⟨k0, hk0, hp0, rfl, hv0⟩ | ⟨hp0, -⟩
  rotate_left
  · exact (h.room hp0).elim
  refine aw_go 3 19 [some (.ref 0), some (.int (nI k)), some (.long (lN v)), none, some (.int dep), some (.int len), some (.long (lN (4 * v + k))), none, some (.int (nI (hs cap (lN (4 * v + k)) k0)))] [.int (-1), .int (nI (hs cap (lN (4 * v + k)) k0))] (stH cap keys dp ln mk pt sl (nI n) mark) rfl ?_
  refine aw_cmp_eq rfl (fun h19 => absurd h19 (nI_m1 (by have := hs_lt (k := k0) (key := lN (4 * v + k)) hc.1; omega))) (fun h19 => ?_)
  refine aw_go 4 29 [some (.ref 0), some (.int (nI k)), some (.long (lN v)), none, some (.int dep), some (.int len), some (.long (lN (4 * v + k))), none, some (.int (nI (hs cap (lN (4 * v + k)) k0)))] [.int (nI (hs cap (lN (4 * v + k)) k0)), .ref 6, .ref 0] (stH cap keys dp ln mk pt sl (nI n) mark) rfl ?_
  refine aw_ialdN rfl rfl ⟨hs_lt hc.1, by omega⟩ ?_
  rcases hv0 with hv1 | ⟨j, hj, hv1, hjk⟩ <;> rw [hv1]
  · refine aw_cV [0, 1, 2, 3, 4, 5, 6] (c_St_has0 l cap n keys dp ln mk pt sl mark) rfl cw_St_76 rfl rfl rfl rfl rfl rfl (Nat.le_refl _) (Nat.le_refl _) (fun r h' hp => ?_)
    obtain ⟨rfl, rfl⟩ := hp
    refine aw_go 0 33 [some (.ref 0), some (.int (nI k)), some (.long (lN v)), none, some (.int dep), some (.int len), some (.long (lN (4 * v + k))), none, some (.int (nI (hs cap (lN (4 * v + k)) k0)))] [.int 0] (stH cap keys dp ln mk pt sl (nI n) mark) rfl ?_
    refine aw_if_eq rfl (fun h33 => ?_) (fun h33 => absurd h33 (by decide))
    refine aw_go 2 47 [some (.ref 0), some (.int (nI k)), some (.long (lN v)), none, some (.int dep), some (.int len), some (.long (lN (4 * v + k))), none, some (.int (nI (hs cap (lN (4 * v + k)) k0)))] [.int (-1), .int (nI (hs cap (lN (4 * v + k)) k0))] (stH cap keys dp ln mk pt sl (nI n) mark) rfl ?_
    refine aw_cmp_eq rfl (fun h47 => absurd h47 (nI_m1 (by have := hs_lt (k := k0) (key := lN (4 * v + k)) hc.1; omega))) (fun h47 => ?_)
    refine aw_go 5 59 [some (.ref 0), some (.int (nI k)), some (.long (lN v)), none, some (.int dep), some (.int len), some (.long (lN (4 * v + k))), none, some (.int (nI (hs cap (lN (4 * v + k)) k0)))] [.int (nI cap), .int (nI n)] (stH cap keys dp ln mk pt sl (nI n) mark) rfl ?_
    refine aw_cmp_lt rfl (fun h59 => ?_) (fun h59 => absurd (nI_lt hn (by omega)) h59)
    refine aw_go 5 74 [some (.ref 0), some (.int (nI k)), some (.long (lN v)), none, some (.int dep), some (.int len), some (.long (lN (4 * v + k))), none, some (.int (nI (hs cap (lN (4 * v + k)) k0)))] [.int (nI n), .int (nI (hs cap (lN (4 * v + k)) k0)), .ref 6] (stH cap keys dp ln mk pt sl (nI n) mark) rfl ?_
    refine aw_iastN rfl rfl ⟨hs_lt hc.1, by omega⟩ ?_
    refine aw_go 5 85 [some (.ref 0), some (.int (nI k)), some (.long (lN v)), none, some (.int dep), some (.int len), some (.long (lN (4 * v + k))), none, some (.int (nI (hs cap (lN (4 * v + k)) k0)))] [.long (lN (4 * v + k)), .int (nI n), .ref 1] (stH cap keys dp ln mk pt (upd sl (hs cap (lN (4 * v + k)) k0) (nI n)) (nI n) mark) rfl ?_
    refine aw_lastN rfl rfl ⟨by omega, by omega⟩ ?_
    refine aw_go 5 96 [some (.ref 0), some (.int (nI k)), some (.long (lN v)), none, some (.int dep), some (.int len), some (.long (lN (4 * v + k))), none, some (.int (nI (hs cap (lN (4 * v + k)) k0)))] [.int dep, .int (nI n), .ref 2] (stH cap (vp_updL keys n (lN (4 * v + k))) dp ln mk pt (upd sl (hs cap (lN (4 * v + k)) k0) (nI n)) (nI n) mark) rfl ?_
    refine aw_iastN rfl rfl ⟨by omega, by omega⟩ ?_
    refine aw_go 5 107 [some (.ref 0), some (.int (nI k)), some (.long (lN v)), none, some (.int dep), some (.int len), some (.long (lN (4 * v + k))), none, some (.int (nI (hs cap (lN (4 * v + k)) k0)))] [.int len, .int (nI n), .ref 3] (stH cap (vp_updL keys n (lN (4 * v + k))) (upd dp n dep) ln mk pt (upd sl (hs cap (lN (4 * v + k)) k0) (nI n)) (nI n) mark) rfl ?_
    refine aw_iastN rfl rfl ⟨by omega, by omega⟩ ?_
    refine aw_go 10 124 [some (.ref 0), some (.int (nI k)), some (.long (lN v)), none, some (.int dep), some (.int len), some (.long (lN (4 * v + k))), none, some (.int (nI (hs cap (lN (4 * v + k)) k0)))] [.int (((nI n) + 1) - 1)] (stH cap (vp_updL keys n (lN (4 * v + k))) (upd dp n dep) (upd ln n len) mk pt (upd sl (hs cap (lN (4 * v + k)) k0) (nI n)) ((nI n) + 1) mark) rfl ?_
    exact aw_iret rfl rfl rfl (Or.inr ⟨h.new hk0 hp0 hv1, by rw [← nI_succ, nI_pred], _, h.ins hk0 hp0 hv1 hn, by rw [nI_succ]⟩) rfl (Nat.le_refl _) (Nat.le_refl _) -- [.int (((nI n) + 1) - 1)] (stH cap (vp_updL keys n (lN (4 * v + k))) (upd dp n dep) (upd ln n len) mk pt (upd sl (hs cap (lN (4 * v + k)) k0) (nI n)) ((nI n) + 1) mark)
  · refine aw_cV [0, 1, 2, 3, 4, 5, 6] (c_St_has1 l cap n keys dp ln mk pt sl mark j (by omega) hj) rfl cw_St_76 rfl rfl rfl rfl rfl rfl (Nat.le_refl _) (Nat.le_refl _) (fun r h' hp => ?_)
    obtain ⟨rfl, rfl⟩ := hp
    refine aw_go 0 33 [some (.ref 0), some (.int (nI k)), some (.long (lN v)), none, some (.int dep), some (.int len), some (.long (lN (4 * v + k))), none, some (.int (nI (hs cap (lN (4 * v + k)) k0)))] [.int 1] (stH cap keys dp ln mk pt sl (nI n) mark) rfl ?_
    refine aw_if_eq rfl (fun h33 => absurd h33 (by decide)) (fun h33 => ?_)
    refine aw_go 3 42 [some (.ref 0), some (.int (nI k)), some (.long (lN v)), none, some (.int dep), some (.int len), some (.long (lN (4 * v + k))), none, some (.int (nI (hs cap (lN (4 * v + k)) k0)))] [.int (nI (hs cap (lN (4 * v + k)) k0)), .ref 6] (stH cap keys dp ln mk pt sl (nI n) mark) rfl ?_
    refine aw_ialdN rfl rfl ⟨hs_lt hc.1, by omega⟩ ?_
    exact aw_iret rfl rfl rfl (Or.inl ⟨j, hj, hjk, by rw [hv1], rfl⟩) rfl (Nat.le_refl _) (Nat.le_refl _) -- [.int (sl (hs cap (lN (4 * v + k)) k0))] (stH cap keys dp ln mk pt sl (nI n) mark)
