/-! Reader: placeObject -/
/-- quoted q times, the inmost first -/
def qw : Nat → Tr → Tr
  | 0, T => T
  | q + 1, T => qw q (.op tr_quote (.op T tr_nil))
set_option maxHeartbeats 2000000 in
set_option maxRecDepth 100000 in
theorem c_Rd_placeObject_t (l : Launch) (res lf lp nx sa kn len mark : Int32) (vu : Int64) (cap : Nat) (keys : Nat → Int64) (sta bas obj f wa dp ln mk pt sl : Nat → Int32) (n e0 : Nat) (t : Nat → Tr) (h : st_ok cap n e0 keys dp ln sl t) (q hd : Nat) (hlv : 0 + q ≤ 40) (hq : ∀ i, 0 < i → i ≤ 0 + q → sta i = nI 2) (sg : Nat) (hsg7 : sg < 7) (hsg2 : sg ≠ 2) (hsg : sta 0 = nI sg) (hhd : hd < 1000) (o : Nat) (ho : o < n) (hcap : n + 2 * q < cap) : Con l y_Rd_placeObject M_Rd_placeObject 3 80 [.ref 0, .int (nI o)] (rdH (nI (0 + q)) (nI hd) res lf lp sta bas obj nx sa kn vu f wa len cap keys dp ln mk pt sl (nI n) mark) 15 0 0 0 (fun r h' => r = none ∧ ∃ (j n2 : Nat) (keys2 : Nat → Int64) (dp2 ln2 sl2 : Nat → Int32) (t2 : Nat → Tr), st_ok cap n2 e0 keys2 dp2 ln2 sl2 t2 ∧ j < n2 ∧ t2 j = qw q (t o) ∧ n ≤ n2 ∧ n2 ≤ n + 2 * q ∧ (∀ i, i < n → t2 i = t i) ∧ h' = rdH (nI 0) (nI hd) (nI j) lf lp (upd sta 0 1) bas obj nx sa kn vu f wa len cap keys2 dp2 ln2 mk pt sl2 (nI n2) mark) := by
  have hc := h.1.cap
  refine Con.ent ok_Rd_placeObject (by decide +kernel) rfl ?_
  intro pA eA sA mA argsA belowA methA cA GA μA
  refine aw_go 2 2 [some (.ref 0), some (.int (nI o)), some (.int (nI o))] [] (rdH (nI (0 + q)) (nI hd) res lf lp sta bas obj nx sa kn vu f wa len cap keys dp ln mk pt sl (nI n) mark) rfl ?_
  refine aw_loop (σ := Nat × Nat × Nat × (Nat → Int64) × (Nat → Int32) × (Nat → Int32) × (Nat → Int32) × (Nat → Tr)) (fun y => y.1 ≤ q ∧ st_ok cap y.2.2.1 e0 y.2.2.2.1 y.2.2.2.2.1 y.2.2.2.2.2.1 y.2.2.2.2.2.2.1 y.2.2.2.2.2.2.2 ∧ y.2.1 < y.2.2.1 ∧ qw y.1 (y.2.2.2.2.2.2.2 y.2.1) = qw q (t o) ∧ n ≤ y.2.2.1 ∧ y.2.2.1 ≤ n + 2 * (q - y.1) ∧ ∀ i, i < n → y.2.2.2.2.2.2.2 i = t i) (fun y => y.1) (fun y => [some (.ref 0), some (.int (nI o)), some (.int (nI y.2.1))]) (fun _ => []) (fun y => rdH (nI (0 + y.1)) (nI hd) res lf lp sta bas obj nx sa kn vu f wa len cap y.2.2.2.1 y.2.2.2.2.1 y.2.2.2.2.2.1 mk pt y.2.2.2.2.2.2.1 (nI y.2.2.1) mark) ?_ (q, o, n, keys, dp, ln, sl, t) ⟨Nat.le_refl _, h, ho, rfl, Nat.le_refl _, Nat.le_add_right _ _, fun _ _ => rfl⟩
  rintro ⟨q', j, n', keys', dp', ln', sl', t'⟩ ⟨hm, g1, g2, g3, g4, g5, g6⟩ ih
  dsimp only at hm g1 g2 g3 g4 g5 g6 ih ⊢
  refine aw_go 1 3 [some (.ref 0), some (.int (nI o)), some (.int (nI j))] [.ref 0] (rdH (nI (0 + q')) (nI hd) res lf lp sta bas obj nx sa kn vu f wa len cap (keys') (dp') (ln') mk pt (sl') (nI n') mark) rfl ?_
  rcases q' with _ | q1
  · refine aw_cV [0, 1, 2, 3, 4, 5, 6, 7, 8, 9, 10, 11, 12, 13, 14] (c_Rd_stage l (nI hd) res lf lp nx sa kn len (nI n') mark vu cap (keys') sta bas obj f wa (dp') (ln') mk pt (sl') (0 + 0) (by omega)) rfl cw_Rd_96 rfl rfl rfl rfl rfl rfl (Nat.le_refl _) (Nat.le_refl _) (fun r h' hp => ?_)
    obtain ⟨rfl, rfl⟩ := hp
    rw [show sta (0 + 0) = nI sg from hsg]
    refine aw_go 1 7 [some (.ref 0), some (.int (nI o)), some (.int (nI j))] [.int 2, .int (nI sg)] (rdH (nI (0 + 0)) (nI hd) res lf lp sta bas obj nx sa kn vu f wa len cap (keys') (dp') (ln') mk pt (sl') (nI n') mark) rfl ?_
    refine aw_cmp_ne rfl (fun h7 => ?_) (fun h7 => absurd (tk_c (k := 2) (by omega) (by omega) h7) hsg2)
    refine aw_go 2 52 [some (.ref 0), some (.int (nI o)), some (.int (nI j))] [.int (nI (0 + 0))] (rdH (nI (0 + 0)) (nI hd) res lf lp sta bas obj nx sa kn vu f wa len cap (keys') (dp') (ln') mk pt (sl') (nI n') mark) rfl ?_
    refine aw_if_ne rfl (fun h52 => absurd rfl h52) (fun h52 => ?_)
    refine aw_go 5 62 [some (.ref 0), some (.int (nI o)), some (.int (nI j))] [.int 1, .ref 0] (rdH (nI (0 + 0)) (nI hd) (nI j) lf lp sta bas obj nx sa kn vu f wa len cap (keys') (dp') (ln') mk pt (sl') (nI n') mark) rfl ?_
    refine aw_cV [0, 1, 2, 3, 4, 5, 6, 7, 8, 9, 10, 11, 12, 13, 14] (c_Rd_setStage l (nI hd) (nI j) lf lp nx sa kn len (nI n') mark vu cap (keys') sta bas obj f wa (dp') (ln') mk pt (sl') (0 + 0) (by omega) 1) rfl cw_Rd_103 rfl rfl rfl rfl rfl rfl (Nat.le_refl _) (Nat.le_refl _) (fun r h' hp => ?_)
    obtain ⟨rfl, rfl⟩ := hp
    refine aw_go 0 65 [some (.ref 0), some (.int (nI o)), some (.int (nI j))] [] (rdH (nI (0 + 0)) (nI hd) (nI j) lf lp (upd sta (0 + 0) 1) bas obj nx sa kn vu f wa len cap (keys') (dp') (ln') mk pt (sl') (nI n') mark) rfl ?_
    exact aw_vret rfl rfl ⟨rfl, j, n', keys', dp', ln', sl', t', g1, g2, g3, g4, by omega, g6, rfl⟩ rfl (Nat.le_refl _) (Nat.le_refl _) -- [] (rdH (nI (0 + 0)) (nI hd) (nI j) lf lp (upd sta (0 + 0) 1) bas obj nx sa kn vu f wa len cap (keys') (dp') (ln') mk pt (sl') (nI n') mark)
  · refine aw_cV [0, 1, 2, 3, 4, 5, 6, 7, 8, 9, 10, 11, 12, 13, 14] (c_Rd_stage l (nI hd) res lf lp nx sa kn len (nI n') mark vu cap (keys') sta bas obj f wa (dp') (ln') mk pt (sl') (0 + (q1 + 1)) (by omega)) rfl cw_Rd_96 rfl rfl rfl rfl rfl rfl (Nat.le_refl _) (Nat.le_refl _) (fun r h' hp => ?_)
    obtain ⟨rfl, rfl⟩ := hp
    rw [hq (0 + (q1 + 1)) (by omega) (by omega)]
    refine aw_go 1 7 [some (.ref 0), some (.int (nI o)), some (.int (nI j))] [.int 2, .int (nI 2)] (rdH (nI (0 + (q1 + 1))) (nI hd) res lf lp sta bas obj nx sa kn vu f wa len cap (keys') (dp') (ln') mk pt (sl') (nI n') mark) rfl ?_
    refine aw_cmp_ne rfl (fun h7 => absurd rfl h7) (fun h7 => ?_)
    refine aw_go 2 14 [some (.ref 0), some (.int (nI o)), some (.int (nI j))] [.int (nI (0 + (q1 + 1)))] (rdH (nI (0 + (q1 + 1))) (nI hd) res lf lp sta bas obj nx sa kn vu f wa len cap (keys') (dp') (ln') mk pt (sl') (nI n') mark) rfl ?_
    refine aw_if_le rfl (fun h14 => absurd h14 (nI_nle (by omega) (by omega))) (fun h14 => ?_)
    refine aw_go 7 28 [some (.ref 0), some (.int (nI o)), some (.int (nI j))] [.int 0, .int (nI j), .ref 8, .int 1, .ref 8] (rdH (nI (0 + (q1 + 1))) (nI hd) res lf lp sta bas obj nx sa kn vu f wa len cap (keys') (dp') (ln') mk pt (sl') (nI n') mark) rfl ?_
    refine aw_cV [8, 9, 10, 11, 12, 13, 14] (c_St_pairOf l cap n' keys' dp' ln' mk pt sl' mark e0 t' g1 j 0 g2 (by have := g1.2.2.1; omega) (by omega)) rfl cw_Rd_122 rfl rfl rfl rfl rfl rfl (Nat.le_refl _) (Nat.le_refl _) (fun r h' hp => ?_)
    obtain ⟨j2, n2, keys2, dp2, ln2, sl2, t2, k1, k2, k3, k4, k5, k6, rfl, rfl⟩ := hp
    refine aw_go 0 31 [some (.ref 0), some (.int (nI o)), some (.int (nI j))] [.int (nI j2), .int 1, .ref 8] (rdH (nI (0 + (q1 + 1))) (nI hd) res lf lp sta bas obj nx sa kn vu f wa len cap keys2 dp2 ln2 mk pt sl2 (nI n2) mark) rfl ?_
    refine aw_cV [8, 9, 10, 11, 12, 13, 14] (c_St_pairOf l cap n2 keys2 dp2 ln2 mk pt sl2 mark e0 t2 k1 1 j2 (by have := k1.2.2.1; omega) k2 (by omega)) rfl cw_Rd_122 rfl rfl rfl rfl rfl rfl (Nat.le_refl _) (Nat.le_refl _) (fun r h' hp => ?_)
    obtain ⟨j3, n3, keys3, dp3, ln3, sl3, t3, m1, m2, m3, m4, m5, m6, rfl, rfl⟩ := hp
    refine aw_go 7 45 [some (.ref 0), some (.int (nI o)), some (.int (nI j3))] [] (rdH ((nI (0 + (q1 + 1))) - 1) (nI hd) res lf lp sta bas obj nx sa kn vu f wa len cap keys3 dp3 ln3 mk pt sl3 (nI n3) mark) rfl ?_
    rw [show nI (0 + (q1 + 1)) - 1 = nI (0 + q1) from nI_pred (0 + q1)]
    refine aw_go 1 2 [some (.ref 0), some (.int (nI o)), some (.int (nI j3))] [] (rdH (nI (0 + q1)) (nI hd) res lf lp sta bas obj nx sa kn vu f wa len cap keys3 dp3 ln3 mk pt sl3 (nI n3) mark) rfl ?_
    -- LOOP 2: [some (.ref 0), some (.int (nI o)), some (.int (nI j3))] [] (rdH (nI (0 + q1)) (nI hd) res lf lp sta bas obj nx sa kn vu f wa len cap keys3 dp3 ln3 mk pt sl3 (nI n3) mark)
    exact ih (q1, j3, n3, keys3, dp3, ln3, sl3, t3) ⟨by show q1 ≤ q; omega, m1, m2, by show qw q1 (t3 j3) = _; rw [m3, k3, k1.2.2.2.2, g1.2.2.2.1]; exact g3, by show n ≤ n3; omega, by show n3 ≤ _; omega, fun z hz => by show t3 z = t z; rw [m6 z (by omega), k6 z (by omega)]; exact g6 z hz⟩ (by show q1 < q1 + 1; omega)
set_option maxHeartbeats 2000000 in
set_option maxRecDepth 100000 in
theorem c_Rd_placeObject_s (l : Launch) (res lf lp nx sa kn len mark : Int32) (vu : Int64) (cap : Nat) (keys : Nat → Int64) (sta bas obj f wa dp ln mk pt sl : Nat → Int32) (n e0 : Nat) (t : Nat → Tr) (h : st_ok cap n e0 keys dp ln sl t) (b : Nat) (hb : 0 < b) (q hd : Nat) (hlv : b + q ≤ 40) (hq : ∀ i, b < i → i ≤ b + q → sta i = nI 2) (sg : Nat) (hsg7 : sg < 7) (hsg2 : sg ≠ 2) (hsg : sta b = nI sg) (hhd : hd < 1000) (o : Nat) (ho : o < n) (hcap : n + 2 * q < cap) : Con l y_Rd_placeObject M_Rd_placeObject 3 80 [.ref 0, .int (nI o)] (rdH (nI (b + q)) (nI hd) res lf lp sta bas obj nx sa kn vu f wa len cap keys dp ln mk pt sl (nI n) mark) 15 0 0 0 (fun r h' => r = none ∧ ∃ (j n2 : Nat) (keys2 : Nat → Int64) (dp2 ln2 sl2 : Nat → Int32) (t2 : Nat → Tr), st_ok cap n2 e0 keys2 dp2 ln2 sl2 t2 ∧ j < n2 ∧ t2 j = qw q (t o) ∧ n ≤ n2 ∧ n2 ≤ n + 2 * q ∧ (∀ i, i < n → t2 i = t i) ∧ h' = rdH (nI b) (nI (hd + 1)) res lf lp (upd sta b (if sg = 5 then 6 else 4)) bas (upd obj hd (nI j)) nx sa kn vu f wa len cap keys2 dp2 ln2 mk pt sl2 (nI n2) mark) := by
  have hc := h.1.cap
  refine Con.ent ok_Rd_placeObject (by decide +kernel) rfl ?_
  intro pA eA sA mA argsA belowA methA cA GA μA
  refine aw_go 2 2 [some (.ref 0), some (.int (nI o)), some (.int (nI o))] [] (rdH (nI (b + q)) (nI hd) res lf lp sta bas obj nx sa kn vu f wa len cap keys dp ln mk pt sl (nI n) mark) rfl ?_
  refine aw_loop (σ := Nat × Nat × Nat × (Nat → Int64) × (Nat → Int32) × (Nat → Int32) × (Nat → Int32) × (Nat → Tr)) (fun y => y.1 ≤ q ∧ st_ok cap y.2.2.1 e0 y.2.2.2.1 y.2.2.2.2.1 y.2.2.2.2.2.1 y.2.2.2.2.2.2.1 y.2.2.2.2.2.2.2 ∧ y.2.1 < y.2.2.1 ∧ qw y.1 (y.2.2.2.2.2.2.2 y.2.1) = qw q (t o) ∧ n ≤ y.2.2.1 ∧ y.2.2.1 ≤ n + 2 * (q - y.1) ∧ ∀ i, i < n → y.2.2.2.2.2.2.2 i = t i) (fun y => y.1) (fun y => [some (.ref 0), some (.int (nI o)), some (.int (nI y.2.1))]) (fun _ => []) (fun y => rdH (nI (b + y.1)) (nI hd) res lf lp sta bas obj nx sa kn vu f wa len cap y.2.2.2.1 y.2.2.2.2.1 y.2.2.2.2.2.1 mk pt y.2.2.2.2.2.2.1 (nI y.2.2.1) mark) ?_ (q, o, n, keys, dp, ln, sl, t) ⟨Nat.le_refl _, h, ho, rfl, Nat.le_refl _, Nat.le_add_right _ _, fun _ _ => rfl⟩
  rintro ⟨q', j, n', keys', dp', ln', sl', t'⟩ ⟨hm, g1, g2, g3, g4, g5, g6⟩ ih
  dsimp only at hm g1 g2 g3 g4 g5 g6 ih ⊢
  refine aw_go 1 3 [some (.ref 0), some (.int (nI o)), some (.int (nI j))] [.ref 0] (rdH (nI (b + q')) (nI hd) res lf lp sta bas obj nx sa kn vu f wa len cap (keys') (dp') (ln') mk pt (sl') (nI n') mark) rfl ?_
  rcases q' with _ | q1
  · refine aw_cV [0, 1, 2, 3, 4, 5, 6, 7, 8, 9, 10, 11, 12, 13, 14] (c_Rd_stage l (nI hd) res lf lp nx sa kn len (nI n') mark vu cap (keys') sta bas obj f wa (dp') (ln') mk pt (sl') (b + 0) (by omega)) rfl cw_Rd_96 rfl rfl rfl rfl rfl rfl (Nat.le_refl _) (Nat.le_refl _) (fun r h' hp => ?_)
    obtain ⟨rfl, rfl⟩ := hp
    rw [show sta (b + 0) = nI sg from hsg]
    refine aw_go 1 7 [some (.ref 0), some (.int (nI o)), some (.int (nI j))] [.int 2, .int (nI sg)] (rdH (nI (b + 0)) (nI hd) res lf lp sta bas obj nx sa kn vu f wa len cap (keys') (dp') (ln') mk pt (sl') (nI n') mark) rfl ?_
    refine aw_cmp_ne rfl (fun h7 => ?_) (fun h7 => absurd (tk_c (k := 2) (by omega) (by omega) h7) hsg2)
    refine aw_go 2 52 [some (.ref 0), some (.int (nI o)), some (.int (nI j))] [.int (nI (b + 0))] (rdH (nI (b + 0)) (nI hd) res lf lp sta bas obj nx sa kn vu f wa len cap (keys') (dp') (ln') mk pt (sl') (nI n') mark) rfl ?_
    refine aw_if_ne rfl (fun h52 => ?_) (fun h52 => absurd h52 (nI_ne0 (by omega) (by omega)))
    refine aw_go 2 68 [some (.ref 0), some (.int (nI o)), some (.int (nI j))] [.ref 0, .ref 0] (rdH (nI (b + 0)) (nI hd) res lf lp sta bas obj nx sa kn vu f wa len cap (keys') (dp') (ln') mk pt (sl') (nI n') mark) rfl ?_
    refine aw_cV [0, 1, 2, 3, 4, 5, 6, 7, 8, 9, 10, 11, 12, 13, 14] (c_Rd_stage l (nI hd) res lf lp nx sa kn len (nI n') mark vu cap (keys') sta bas obj f wa (dp') (ln') mk pt (sl') (b + 0) (by omega)) rfl cw_Rd_96 rfl rfl rfl rfl rfl rfl (Nat.le_refl _) (Nat.le_refl _) (fun r h' hp => ?_)
    obtain ⟨rfl, rfl⟩ := hp
    rw [show sta (b + 0) = nI sg from hsg]
    refine aw_go 1 72 [some (.ref 0), some (.int (nI o)), some (.int (nI j))] [.int 5, .int (nI sg), .ref 0] (rdH (nI (b + 0)) (nI hd) res lf lp sta bas obj nx sa kn vu f wa len cap (keys') (dp') (ln') mk pt (sl') (nI n') mark) rfl ?_
    refine aw_cmp_ne rfl (fun h72 => ?_) (fun h72 => ?_)
    · refine aw_go 1 81 [some (.ref 0), some (.int (nI o)), some (.int (nI j))] [.int 4, .ref 0] (rdH (nI (b + 0)) (nI hd) res lf lp sta bas obj nx sa kn vu f wa len cap (keys') (dp') (ln') mk pt (sl') (nI n') mark) rfl ?_
      refine aw_cV [0, 1, 2, 3, 4, 5, 6, 7, 8, 9, 10, 11, 12, 13, 14] (c_Rd_setStage l (nI hd) res lf lp nx sa kn len (nI n') mark vu cap (keys') sta bas obj f wa (dp') (ln') mk pt (sl') (b + 0) (by omega) 4) rfl cw_Rd_103 rfl rfl rfl rfl rfl rfl (Nat.le_refl _) (Nat.le_refl _) (fun r h' hp => ?_)
      obtain ⟨rfl, rfl⟩ := hp
      refine aw_go 5 93 [some (.ref 0), some (.int (nI o)), some (.int (nI j))] [.int (nI 1000), .int (nI hd)] (rdH (nI (b + 0)) (nI hd) res lf lp (upd sta (b + 0) 4) bas obj nx sa kn vu f wa len cap (keys') (dp') (ln') mk pt (sl') (nI n') mark) rfl ?_
      refine aw_cmp_ge rfl (fun h93 => absurd h93 (nI_ge (b := 1000) hhd (by omega))) (fun h93 => ?_)
      refine aw_go 5 105 [some (.ref 0), some (.int (nI o)), some (.int (nI j))] [.int (nI j), .int (nI hd), .ref 7] (rdH (nI (b + 0)) (nI hd) res lf lp (upd sta (b + 0) 4) bas obj nx sa kn vu f wa len cap (keys') (dp') (ln') mk pt (sl') (nI n') mark) rfl ?_
      refine aw_iastN rfl rfl ⟨by omega, by omega⟩ ?_
      refine aw_go 6 116 [some (.ref 0), some (.int (nI o)), some (.int (nI j))] [] (rdH (nI (b + 0)) ((nI hd) + 1) res lf lp (upd sta (b + 0) 4) bas (upd obj hd (nI j)) nx sa kn vu f wa len cap (keys') (dp') (ln') mk pt (sl') (nI n') mark) rfl ?_
      rw [← nI_succ]
      exact aw_vret rfl rfl ⟨rfl, j, n', keys', dp', ln', sl', t', g1, g2, g3, g4, by omega, g6, by rw [if_neg (tk_n (k := 5) h72)]; rfl⟩ rfl (Nat.le_refl _) (Nat.le_refl _) -- [] (rdH (nI (b + 0)) (nI (hd + 1)) res lf lp (upd sta (b + 0) 4) bas (upd obj hd (nI j)) nx sa kn vu f wa len cap (keys') (dp') (ln') mk pt (sl') (nI n') mark)
    · refine aw_go 2 81 [some (.ref 0), some (.int (nI o)), some (.int (nI j))] [.int 6, .ref 0] (rdH (nI (b + 0)) (nI hd) res lf lp sta bas obj nx sa kn vu f wa len cap (keys') (dp') (ln') mk pt (sl') (nI n') mark) rfl ?_
      refine aw_cV [0, 1, 2, 3, 4, 5, 6, 7, 8, 9, 10, 11, 12, 13, 14] (c_Rd_setStage l (nI hd) res lf lp nx sa kn len (nI n') mark vu cap (keys') sta bas obj f wa (dp') (ln') mk pt (sl') (b + 0) (by omega) 6) rfl cw_Rd_103 rfl rfl rfl rfl rfl rfl (Nat.le_refl _) (Nat.le_refl _) (fun r h' hp => ?_)
      obtain ⟨rfl, rfl⟩ := hp
      refine aw_go 5 93 [some (.ref 0), some (.int (nI o)), some (.int (nI j))] [.int (nI 1000), .int (nI hd)] (rdH (nI (b + 0)) (nI hd) res lf lp (upd sta (b + 0) 6) bas obj nx sa kn vu f wa len cap (keys') (dp') (ln') mk pt (sl') (nI n') mark) rfl ?_
      refine aw_cmp_ge rfl (fun h93 => absurd h93 (nI_ge (b := 1000) hhd (by omega))) (fun h93 => ?_)
      refine aw_go 5 105 [some (.ref 0), some (.int (nI o)), some (.int (nI j))] [.int (nI j), .int (nI hd), .ref 7] (rdH (nI (b + 0)) (nI hd) res lf lp (upd sta (b + 0) 6) bas obj nx sa kn vu f wa len cap (keys') (dp') (ln') mk pt (sl') (nI n') mark) rfl ?_
      refine aw_iastN rfl rfl ⟨by omega, by omega⟩ ?_
      refine aw_go 6 116 [some (.ref 0), some (.int (nI o)), some (.int (nI j))] [] (rdH (nI (b + 0)) ((nI hd) + 1) res lf lp (upd sta (b + 0) 6) bas (upd obj hd (nI j)) nx sa kn vu f wa len cap (keys') (dp') (ln') mk pt (sl') (nI n') mark) rfl ?_
      rw [← nI_succ]
      exact aw_vret rfl rfl ⟨rfl, j, n', keys', dp', ln', sl', t', g1, g2, g3, g4, by omega, g6, by rw [if_pos (tk_c (k := 5) (by omega) (by omega) h72)]; rfl⟩ rfl (Nat.le_refl _) (Nat.le_refl _) -- [] (rdH (nI (b + 0)) (nI (hd + 1)) res lf lp (upd sta (b + 0) 6) bas (upd obj hd (nI j)) nx sa kn vu f wa len cap (keys') (dp') (ln') mk pt (sl') (nI n') mark)
  · refine aw_cV [0, 1, 2, 3, 4, 5, 6, 7, 8, 9, 10, 11, 12, 13, 14] (c_Rd_stage l (nI hd) res lf lp nx sa kn len (nI n') mark vu cap (keys') sta bas obj f wa (dp') (ln') mk pt (sl') (b + (q1 + 1)) (by omega)) rfl cw_Rd_96 rfl rfl rfl rfl rfl rfl (Nat.le_refl _) (Nat.le_refl _) (fun r h' hp => ?_)
    obtain ⟨rfl, rfl⟩ := hp
    rw [hq (b + (q1 + 1)) (by omega) (by omega)]
    refine aw_go 1 7 [some (.ref 0), some (.int (nI o)), some (.int (nI j))] [.int 2, .int (nI 2)] (rdH (nI (b + (q1 + 1))) (nI hd) res lf lp sta bas obj nx sa kn vu f wa len cap (keys') (dp') (ln') mk pt (sl') (nI n') mark) rfl ?_
    refine aw_cmp_ne rfl (fun h7 => absurd rfl h7) (fun h7 => ?_)
    refine aw_go 2 14 [some (.ref 0), some (.int (nI o)), some (.int (nI j))] [.int (nI (b + (q1 + 1)))] (rdH (nI (b + (q1 + 1))) (nI hd) res lf lp sta bas obj nx sa kn vu f wa len cap (keys') (dp') (ln') mk pt (sl') (nI n') mark) rfl ?_
    refine aw_if_le rfl (fun h14 => absurd h14 (nI_nle (by omega) (by omega))) (fun h14 => ?_)
    refine aw_go 7 28 [some (.ref 0), some (.int (nI o)), some (.int (nI j))] [.int 0, .int (nI j), .ref 8, .int 1, .ref 8] (rdH (nI (b + (q1 + 1))) (nI hd) res lf lp sta bas obj nx sa kn vu f wa len cap (keys') (dp') (ln') mk pt (sl') (nI n') mark) rfl ?_
    refine aw_cV [8, 9, 10, 11, 12, 13, 14] (c_St_pairOf l cap n' keys' dp' ln' mk pt sl' mark e0 t' g1 j 0 g2 (by have := g1.2.2.1; omega) (by omega)) rfl cw_Rd_122 rfl rfl rfl rfl rfl rfl (Nat.le_refl _) (Nat.le_refl _) (fun r h' hp => ?_)
    obtain ⟨j2, n2, keys2, dp2, ln2, sl2, t2, k1, k2, k3, k4, k5, k6, rfl, rfl⟩ := hp
    refine aw_go 0 31 [some (.ref 0), some (.int (nI o)), some (.int (nI j))] [.int (nI j2), .int 1, .ref 8] (rdH (nI (b + (q1 + 1))) (nI hd) res lf lp sta bas obj nx sa kn vu f wa len cap keys2 dp2 ln2 mk pt sl2 (nI n2) mark) rfl ?_
    refine aw_cV [8, 9, 10, 11, 12, 13, 14] (c_St_pairOf l cap n2 keys2 dp2 ln2 mk pt sl2 mark e0 t2 k1 1 j2 (by have := k1.2.2.1; omega) k2 (by omega)) rfl cw_Rd_122 rfl rfl rfl rfl rfl rfl (Nat.le_refl _) (Nat.le_refl _) (fun r h' hp => ?_)
    obtain ⟨j3, n3, keys3, dp3, ln3, sl3, t3, m1, m2, m3, m4, m5, m6, rfl, rfl⟩ := hp
    refine aw_go 7 45 [some (.ref 0), some (.int (nI o)), some (.int (nI j3))] [] (rdH ((nI (b + (q1 + 1))) - 1) (nI hd) res lf lp sta bas obj nx sa kn vu f wa len cap keys3 dp3 ln3 mk pt sl3 (nI n3) mark) rfl ?_
    rw [show nI (b + (q1 + 1)) - 1 = nI (b + q1) from nI_pred (b + q1)]
    refine aw_go 1 2 [some (.ref 0), some (.int (nI o)), some (.int (nI j3))] [] (rdH (nI (b + q1)) (nI hd) res lf lp sta bas obj nx sa kn vu f wa len cap keys3 dp3 ln3 mk pt sl3 (nI n3) mark) rfl ?_
    -- LOOP 2: [some (.ref 0), some (.int (nI o)), some (.int (nI j3))] [] (rdH (nI (b + q1)) (nI hd) res lf lp sta bas obj nx sa kn vu f wa len cap keys3 dp3 ln3 mk pt sl3 (nI n3) mark)
    exact ih (q1, j3, n3, keys3, dp3, ln3, sl3, t3) ⟨by show q1 ≤ q; omega, m1, m2, by show qw q1 (t3 j3) = _; rw [m3, k3, k1.2.2.2.2, g1.2.2.2.1]; exact g3, by show n ≤ n3; omega, by show n3 ≤ _; omega, fun z hz => by show t3 z = t z; rw [m6 z (by omega), k6 z (by omega)]; exact g6 z hz⟩ (by show q1 < q1 + 1; omega)
