/-! Reader: closeList -/
/-- objects that are held: from place b0 on, the trees of its -/
def ob_R (obj : Nat → Int32) (t : Nat → Tr) (n b0 : Nat) (its : List Tr) : Prop := ∀ m, m < its.length → ∃ i, i < n ∧ obj (b0 + m) = nI i ∧ some (t i) = its[m]?
theorem rd_mx {z : Nat} (hz : z < 2 ^ 31) : (if (0 : Int32) < nI z then nI z else 0) = nI z := by
  rcases Nat.eq_zero_or_pos z with q | q
  · subst q; rfl
  · exact if_pos (nI_lt (a := 0) q hz)
theorem rd_dr {its : List Tr} {m : Nat} {T z : Tr} (h : some T = its[m]?) : (its.drop m).foldr .op z = .op T ((its.drop (m + 1)).foldr .op z) := by
  have h1 := (List.getElem?_eq_some_iff.mp h.symm)
  obtain ⟨h2, h3⟩ := h1
  rw [List.drop_eq_getElem_cons h2, List.foldr_cons, h3]
set_option maxHeartbeats 2000000 in
set_option maxRecDepth 100000 in
theorem c_Rd_closeList_p (l : Launch) (res lf lp nx sa kn len mark : Int32) (vu : Int64) (cap : Nat) (keys : Nat → Int64) (sta bas obj f wa dp ln mk pt sl : Nat → Int32) (n e0 : Nat) (t : Nat → Tr) (h : st_ok cap n e0 keys dp ln sl t) (lv b0 : Nat) (hlv : lv < 40) (its : List Tr) (hb : b0 + its.length + 1 ≤ 1000) (hbas : bas (lv + 1) = nI b0) (hob : ob_R obj t n b0 its) (hcap : n + its.length < cap) (sg : Nat) (hsg6 : sg < 6) (hsg : sta (lv + 1) = nI sg) : Con l y_Rd_closeList M_Rd_closeList 3 80 [.ref 0] (rdH (nI (lv + 1)) (nI (b0 + its.length)) res lf lp sta bas obj nx sa kn vu f wa len cap keys dp ln mk pt sl (nI n) mark) 15 0 0 0 (fun r h' => ∃ (j n2 : Nat) (keys2 : Nat → Int64) (dp2 ln2 sl2 : Nat → Int32) (t2 : Nat → Tr), st_ok cap n2 e0 keys2 dp2 ln2 sl2 t2 ∧ j < n2 ∧ t2 j = its.foldr .op tr_nil ∧ n ≤ n2 ∧ n2 ≤ n + its.length ∧ (∀ i, i < n → t2 i = t i) ∧ r = some (.int (nI j)) ∧ h' = rdH (nI lv) (nI b0) res lf lp sta bas obj nx sa kn vu f wa len cap keys2 dp2 ln2 mk pt sl2 (nI n2) mark) := by
  have hc := h.1.cap
  refine Con.ent ok_Rd_closeList (by decide +kernel) rfl ?_
  intro pA eA sA mA argsA belowA methA cA GA μA
  refine aw_go 3 3 [some (.ref 0), some (.int 0), none] [.ref 0] (rdH (nI (lv + 1)) (nI (b0 + its.length)) res lf lp sta bas obj nx sa kn vu f wa len cap keys dp ln mk pt sl (nI n) mark) rfl ?_
  refine aw_cV [0, 1, 2, 3, 4, 5, 6, 7, 8, 9, 10, 11, 12, 13, 14] (c_Rd_stage l (nI (b0 + its.length)) res lf lp nx sa kn len (nI n) mark vu cap keys sta bas obj f wa dp ln mk pt sl (lv + 1) (by omega)) rfl cw_Rd_96 rfl rfl rfl rfl rfl rfl (Nat.le_refl _) (Nat.le_refl _) (fun r h' hp => ?_)
  obtain ⟨rfl, rfl⟩ := hp
  rw [hsg]
  refine aw_go 1 8 [some (.ref 0), some (.int 0), none] [.int 6, .int (nI sg)] (rdH (nI (lv + 1)) (nI (b0 + its.length)) res lf lp sta bas obj nx sa kn vu f wa len cap keys dp ln mk pt sl (nI n) mark) rfl ?_
  refine aw_cmp_ne rfl (fun h8 => ?_) (fun h8 => absurd h8 (fun z => by have := tk_c (k := 6) (by omega) (by omega) z; omega))
  refine aw_go 1 39 [some (.ref 0), some (.int 0), none] [.ref 0] (rdH (nI (lv + 1)) (nI (b0 + its.length)) res lf lp sta bas obj nx sa kn vu f wa len cap keys dp ln mk pt sl (nI n) mark) rfl ?_
  refine aw_cV [0, 1, 2, 3, 4, 5, 6, 7, 8, 9, 10, 11, 12, 13, 14] (c_Rd_base l (nI (b0 + its.length)) res lf lp nx sa kn len (nI n) mark vu cap keys sta bas obj f wa dp ln mk pt sl (lv + 1) (by omega)) rfl cw_Rd_119 rfl rfl rfl rfl rfl rfl (Nat.le_refl _) (Nat.le_refl _) (fun r h' hp => ?_)
  obtain ⟨rfl, rfl⟩ := hp
  rw [hbas]
  refine aw_go 1 43 [some (.ref 0), some (.int 0), some (.int (nI b0))] [] (rdH (nI (lv + 1)) (nI (b0 + its.length)) res lf lp sta bas obj nx sa kn vu f wa len cap keys dp ln mk pt sl (nI n) mark) rfl ?_
  refine aw_loop (σ := Nat × Nat × Nat × (Nat → Int64) × (Nat → Int32) × (Nat → Int32) × (Nat → Int32) × (Nat → Tr)) (fun y => y.1 ≤ its.length ∧ st_ok cap y.2.2.1 e0 y.2.2.2.1 y.2.2.2.2.1 y.2.2.2.2.2.1 y.2.2.2.2.2.2.1 y.2.2.2.2.2.2.2 ∧ y.2.1 < y.2.2.1 ∧ y.2.2.2.2.2.2.2 y.2.1 = (its.drop y.1).foldr .op tr_nil ∧ n ≤ y.2.2.1 ∧ y.2.2.1 ≤ n + (its.length - y.1) ∧ ∀ i, i < n → y.2.2.2.2.2.2.2 i = t i) (fun y => y.1) (fun y => [some (.ref 0), some (.int (nI y.2.1)), some (.int (nI b0))]) (fun _ => []) (fun y => rdH (nI (lv + 1)) (nI (b0 + y.1)) res lf lp sta bas obj nx sa kn vu f wa len cap y.2.2.2.1 y.2.2.2.2.1 y.2.2.2.2.2.1 mk pt y.2.2.2.2.2.2.1 (nI y.2.2.1) mark) ?_ (its.length, 0, n, keys, dp, ln, sl, t) ⟨Nat.le_refl _, h, by show 0 < n; have := h.2.2.1; omega, by rw [List.drop_length]; exact h.2.2.2.1, Nat.le_refl _, Nat.le_add_right _ _, fun _ _ => rfl⟩
  rintro ⟨m, j, n', keys', dp', ln', sl', t'⟩ ⟨hm, g1, g2, g3, g4, g5, g6⟩ ih
  dsimp only at hm g1 g2 g3 g4 g5 g6 ih ⊢
  refine aw_go 3 48 [some (.ref 0), some (.int (nI j)), some (.int (nI b0))] [.int (nI b0), .int (nI (b0 + m))] (rdH (nI (lv + 1)) (nI (b0 + m)) res lf lp sta bas obj nx sa kn vu f wa len cap (keys') (dp') (ln') mk pt (sl') (nI n') mark) rfl ?_
  refine aw_cmp_le rfl (fun h48 => ?_) (fun h48 => ?_)
  · have hm0 : m = 0 := (by have h9 : ¬ 0 < m := (fun z => nI_ge (a := b0) (b := b0 + m) (by omega) (by omega) h48); omega)
    subst hm0
    refine aw_go 6 99 [some (.ref 0), some (.int (nI j)), some (.int (nI b0))] [.int ((nI (lv + 1)) - 1), .int 0, .ref 0] (rdH (nI (lv + 1)) (nI (b0 + 0)) res lf lp sta bas obj nx sa kn vu f wa len cap (keys') (dp') (ln') mk pt (sl') (nI n') mark) rfl ?_
    refine aw_max rfl (by decide +kernel) (Nat.le_of_ble_eq_true rfl) (Nat.le_of_ble_eq_true rfl) (Nat.le_of_ble_eq_true rfl) (Nat.le_refl _) (Nat.le_refl _) ?_
    rw [nI_pred, rd_mx (by omega)]
    refine aw_go 2 106 [some (.ref 0), some (.int (nI j)), some (.int (nI b0))] [.int (nI j)] (rdH (nI lv) (nI (b0 + 0)) res lf lp sta bas obj nx sa kn vu f wa len cap (keys') (dp') (ln') mk pt (sl') (nI n') mark) rfl ?_
    exact aw_iret rfl rfl rfl ⟨j, n', keys', dp', ln', sl', t', g1, g2, by rw [g3]; rfl, g4, by omega, g6, rfl, rfl⟩ rfl (Nat.le_refl _) (Nat.le_refl _) -- [.int (nI j)] (rdH (nI lv) (nI (b0 + 0)) res lf lp sta bas obj nx sa kn vu f wa len cap (keys') (dp') (ln') mk pt (sl') (nI n') mark)
  · obtain ⟨m1, rfl⟩ : ∃ z, m = z + 1 := ⟨m - 1, by have h9 : ¬ m = 0 := (fun z => h48 (by rw [z]; exact nI_le (Nat.le_refl _) (by omega))); omega⟩
    refine aw_go 2 55 [some (.ref 0), some (.int (nI j)), some (.int (nI b0))] [.int (nI (b0 + (m1 + 1)))] (rdH (nI (lv + 1)) (nI (b0 + (m1 + 1))) res lf lp sta bas obj nx sa kn vu f wa len cap (keys') (dp') (ln') mk pt (sl') (nI n') mark) rfl ?_
    refine aw_if_le rfl (fun h55 => absurd h55 (nI_nle (by omega) (by omega))) (fun h55 => ?_)
    refine aw_go 8 72 [some (.ref 0), some (.int (nI j)), some (.int (nI b0))] [.int ((nI (b0 + (m1 + 1))) - 1), .ref 7, .ref 8] (rdH (nI (lv + 1)) (nI (b0 + (m1 + 1))) res lf lp sta bas obj nx sa kn vu f wa len cap (keys') (dp') (ln') mk pt (sl') (nI n') mark) rfl ?_
    rw [show nI (b0 + (m1 + 1)) - 1 = nI (b0 + m1) from nI_pred (b0 + m1)]
    refine aw_ialdN rfl rfl ⟨by omega, by omega⟩ ?_
    obtain ⟨i, hi, hoi, hti⟩ := hob m1 (by omega)
    rw [hoi]
    refine aw_go 1 74 [some (.ref 0), some (.int (nI j)), some (.int (nI b0))] [.int (nI j), .int (nI i), .ref 8] (rdH (nI (lv + 1)) (nI (b0 + (m1 + 1))) res lf lp sta bas obj nx sa kn vu f wa len cap (keys') (dp') (ln') mk pt (sl') (nI n') mark) rfl ?_
    refine aw_cV [8, 9, 10, 11, 12, 13, 14] (c_St_pairOf l cap n' keys' dp' ln' mk pt sl' mark e0 t' g1 i j (by omega) g2 (by omega)) rfl cw_Rd_122 rfl rfl rfl rfl rfl rfl (Nat.le_refl _) (Nat.le_refl _) (fun r h' hp => ?_)
    obtain ⟨j2, n2, keys2, dp2, ln2, sl2, t2, k1, k2, k3, k4, k5, k6, rfl, rfl⟩ := hp
    refine aw_go 7 88 [some (.ref 0), some (.int (nI j2)), some (.int (nI b0))] [] (rdH (nI (lv + 1)) ((nI (b0 + (m1 + 1))) - 1) res lf lp sta bas obj nx sa kn vu f wa len cap keys2 dp2 ln2 mk pt sl2 (nI n2) mark) rfl ?_
    rw [show nI (b0 + (m1 + 1)) - 1 = nI (b0 + m1) from nI_pred (b0 + m1)]
    refine aw_go 1 43 [some (.ref 0), some (.int (nI j2)), some (.int (nI b0))] [] (rdH (nI (lv + 1)) (nI (b0 + m1)) res lf lp sta bas obj nx sa kn vu f wa len cap keys2 dp2 ln2 mk pt sl2 (nI n2) mark) rfl ?_
    -- LOOP 43: [some (.ref 0), some (.int (nI j2)), some (.int (nI b0))] [] (rdH (nI (lv + 1)) (nI (b0 + m1)) res lf lp sta bas obj nx sa kn vu f wa len cap keys2 dp2 ln2 mk pt sl2 (nI n2) mark)
    exact ih (m1, j2, n2, keys2, dp2, ln2, sl2, t2) ⟨by show m1 ≤ _; omega, k1, k2, by show t2 j2 = _; rw [k3, g6 i hi, g3, rd_dr hti], by show n ≤ n2; omega, by show n2 ≤ _; omega, fun z hz => by show t2 z = t z; rw [k6 z (by omega)]; exact g6 z hz⟩ (by show m1 < m1 + 1; omega)
set_option maxHeartbeats 2000000 in
set_option maxRecDepth 100000 in
theorem c_Rd_closeList_d (l : Launch) (res lf lp nx sa kn len mark : Int32) (vu : Int64) (cap : Nat) (keys : Nat → Int64) (sta bas obj f wa dp ln mk pt sl : Nat → Int32) (n e0 : Nat) (t : Nat → Tr) (h : st_ok cap n e0 keys dp ln sl t) (lv b0 : Nat) (hlv : lv < 40) (its : List Tr) (hb : b0 + its.length + 1 ≤ 1000) (hbas : bas (lv + 1) = nI b0) (hob : ob_R obj t n b0 its) (hcap : n + its.length < cap) (hsg : sta (lv + 1) = nI 6) (T0 : Tr) (i0 : Nat) (hi0 : i0 < n) (hoi0 : obj (b0 + its.length) = nI i0) (hti0 : t i0 = T0) : Con l y_Rd_closeList M_Rd_closeList 3 80 [.ref 0] (rdH (nI (lv + 1)) (nI (b0 + its.length + 1)) res lf lp sta bas obj nx sa kn vu f wa len cap keys dp ln mk pt sl (nI n) mark) 15 0 0 0 (fun r h' => ∃ (j n2 : Nat) (keys2 : Nat → Int64) (dp2 ln2 sl2 : Nat → Int32) (t2 : Nat → Tr), st_ok cap n2 e0 keys2 dp2 ln2 sl2 t2 ∧ j < n2 ∧ t2 j = its.foldr .op T0 ∧ n ≤ n2 ∧ n2 ≤ n + its.length ∧ (∀ i, i < n → t2 i = t i) ∧ r = some (.int (nI j)) ∧ h' = rdH (nI lv) (nI b0) res lf lp sta bas obj nx sa kn vu f wa len cap keys2 dp2 ln2 mk pt sl2 (nI n2) mark) := by
  have hc := h.1.cap
  refine Con.ent ok_Rd_closeList (by decide +kernel) rfl ?_
  intro pA eA sA mA argsA belowA methA cA GA μA
  refine aw_go 3 3 [some (.ref 0), some (.int 0), none] [.ref 0] (rdH (nI (lv + 1)) (nI (b0 + its.length + 1)) res lf lp sta bas obj nx sa kn vu f wa len cap keys dp ln mk pt sl (nI n) mark) rfl ?_
  refine aw_cV [0, 1, 2, 3, 4, 5, 6, 7, 8, 9, 10, 11, 12, 13, 14] (c_Rd_stage l (nI (b0 + its.length + 1)) res lf lp nx sa kn len (nI n) mark vu cap keys sta bas obj f wa dp ln mk pt sl (lv + 1) (by omega)) rfl cw_Rd_96 rfl rfl rfl rfl rfl rfl (Nat.le_refl _) (Nat.le_refl _) (fun r h' hp => ?_)
  obtain ⟨rfl, rfl⟩ := hp
  rw [hsg]
  refine aw_go 1 8 [some (.ref 0), some (.int 0), none] [.int 6, .int (nI 6)] (rdH (nI (lv + 1)) (nI (b0 + its.length + 1)) res lf lp sta bas obj nx sa kn vu f wa len cap keys dp ln mk pt sl (nI n) mark) rfl ?_
  refine aw_cmp_ne rfl (fun h8 => absurd rfl h8) (fun h8 => ?_)
  refine aw_go 2 15 [some (.ref 0), some (.int 0), none] [.int (nI (b0 + its.length + 1))] (rdH (nI (lv + 1)) (nI (b0 + its.length + 1)) res lf lp sta bas obj nx sa kn vu f wa len cap keys dp ln mk pt sl (nI n) mark) rfl ?_
  refine aw_if_le rfl (fun h15 => absurd h15 (nI_nle (by omega) (by omega))) (fun h15 => ?_)
  refine aw_go 10 36 [some (.ref 0), some (.int 0), none] [.int ((nI (b0 + its.length + 1)) - 1), .ref 7] (rdH (nI (lv + 1)) ((nI (b0 + its.length + 1)) - 1) res lf lp sta bas obj nx sa kn vu f wa len cap keys dp ln mk pt sl (nI n) mark) rfl ?_
  rw [nI_pred]
  refine aw_ialdN rfl rfl ⟨by omega, by omega⟩ ?_
  rw [hoi0]
  refine aw_go 2 39 [some (.ref 0), some (.int (nI i0)), none] [.ref 0] (rdH (nI (lv + 1)) (nI (b0 + its.length)) res lf lp sta bas obj nx sa kn vu f wa len cap keys dp ln mk pt sl (nI n) mark) rfl ?_
  refine aw_cV [0, 1, 2, 3, 4, 5, 6, 7, 8, 9, 10, 11, 12, 13, 14] (c_Rd_base l (nI (b0 + its.length)) res lf lp nx sa kn len (nI n) mark vu cap keys sta bas obj f wa dp ln mk pt sl (lv + 1) (by omega)) rfl cw_Rd_119 rfl rfl rfl rfl rfl rfl (Nat.le_refl _) (Nat.le_refl _) (fun r h' hp => ?_)
  obtain ⟨rfl, rfl⟩ := hp
  rw [hbas]
  refine aw_go 1 43 [some (.ref 0), some (.int (nI i0)), some (.int (nI b0))] [] (rdH (nI (lv + 1)) (nI (b0 + its.length)) res lf lp sta bas obj nx sa kn vu f wa len cap keys dp ln mk pt sl (nI n) mark) rfl ?_
  refine aw_loop (σ := Nat × Nat × Nat × (Nat → Int64) × (Nat → Int32) × (Nat → Int32) × (Nat → Int32) × (Nat → Tr)) (fun y => y.1 ≤ its.length ∧ st_ok cap y.2.2.1 e0 y.2.2.2.1 y.2.2.2.2.1 y.2.2.2.2.2.1 y.2.2.2.2.2.2.1 y.2.2.2.2.2.2.2 ∧ y.2.1 < y.2.2.1 ∧ y.2.2.2.2.2.2.2 y.2.1 = (its.drop y.1).foldr .op T0 ∧ n ≤ y.2.2.1 ∧ y.2.2.1 ≤ n + (its.length - y.1) ∧ ∀ i, i < n → y.2.2.2.2.2.2.2 i = t i) (fun y => y.1) (fun y => [some (.ref 0), some (.int (nI y.2.1)), some (.int (nI b0))]) (fun _ => []) (fun y => rdH (nI (lv + 1)) (nI (b0 + y.1)) res lf lp sta bas obj nx sa kn vu f wa len cap y.2.2.2.1 y.2.2.2.2.1 y.2.2.2.2.2.1 mk pt y.2.2.2.2.2.2.1 (nI y.2.2.1) mark) ?_ (its.length, i0, n, keys, dp, ln, sl, t) ⟨Nat.le_refl _, h, by exact hi0, by rw [List.drop_length]; exact hti0, Nat.le_refl _, Nat.le_add_right _ _, fun _ _ => rfl⟩
  rintro ⟨m, j, n', keys', dp', ln', sl', t'⟩ ⟨hm, g1, g2, g3, g4, g5, g6⟩ ih
  dsimp only at hm g1 g2 g3 g4 g5 g6 ih ⊢
  refine aw_go 3 48 [some (.ref 0), some (.int (nI j)), some (.int (nI b0))] [.int (nI b0), .int (nI (b0 + m))] (rdH (nI (lv + 1)) (nI (b0 + m)) res lf lp sta bas obj nx sa kn vu f wa len cap (keys') (dp') (ln') mk pt (sl') (nI n') mark) rfl ?_
  refine aw_cmp_le rfl (fun h48 => ?_) (fun h48 => ?_)
  · have hm0 : m = 0 := (by have h9 : ¬ 0 < m := (fun z => nI_ge (a := b0) (b := b0 + m) (by omega) (by omega) h48); omega)
    subst hm0
    refine aw_go 6 99 [some (.ref 0), some (.int (nI j)), some (.int (nI b0))] [.int ((nI (lv + 1)) - 1), .int 0, .ref 0] (rdH (nI (lv + 1)) (nI (b0 + 0)) res lf lp sta bas obj nx sa kn vu f wa len cap (keys') (dp') (ln') mk pt (sl') (nI n') mark) rfl ?_
    refine aw_max rfl (by decide +kernel) (Nat.le_of_ble_eq_true rfl) (Nat.le_of_ble_eq_true rfl) (Nat.le_of_ble_eq_true rfl) (Nat.le_refl _) (Nat.le_refl _) ?_
    rw [nI_pred, rd_mx (by omega)]
    refine aw_go 2 106 [some (.ref 0), some (.int (nI j)), some (.int (nI b0))] [.int (nI j)] (rdH (nI lv) (nI (b0 + 0)) res lf lp sta bas obj nx sa kn vu f wa len cap (keys') (dp') (ln') mk pt (sl') (nI n') mark) rfl ?_
    exact aw_iret rfl rfl rfl ⟨j, n', keys', dp', ln', sl', t', g1, g2, by rw [g3]; rfl, g4, by omega, g6, rfl, rfl⟩ rfl (Nat.le_refl _) (Nat.le_refl _) -- [.int (nI j)] (rdH (nI lv) (nI (b0 + 0)) res lf lp sta bas obj nx sa kn vu f wa len cap (keys') (dp') (ln') mk pt (sl') (nI n') mark)
  · obtain ⟨m1, rfl⟩ : ∃ z, m = z + 1 := ⟨m - 1, by have h9 : ¬ m = 0 := (fun z => h48 (by rw [z]; exact nI_le (Nat.le_refl _) (by omega))); omega⟩
    refine aw_go 2 55 [some (.ref 0), some (.int (nI j)), some (.int (nI b0))] [.int (nI (b0 + (m1 + 1)))] (rdH (nI (lv + 1)) (nI (b0 + (m1 + 1))) res lf lp sta bas obj nx sa kn vu f wa len cap (keys') (dp') (ln') mk pt (sl') (nI n') mark) rfl ?_
    refine aw_if_le rfl (fun h55 => absurd h55 (nI_nle (by omega) (by omega))) (fun h55 => ?_)
    refine aw_go 8 72 [some (.ref 0), some (.int (nI j)), some (.int (nI b0))] [.int ((nI (b0 + (m1 + 1))) - 1), .ref 7, .ref 8] (rdH (nI (lv + 1)) (nI (b0 + (m1 + 1))) res lf lp sta bas obj nx sa kn vu f wa len cap (keys') (dp') (ln') mk pt (sl') (nI n') mark) rfl ?_
    rw [show nI (b0 + (m1 + 1)) - 1 = nI (b0 + m1) from nI_pred (b0 + m1)]
    refine aw_ialdN rfl rfl ⟨by omega, by omega⟩ ?_
    obtain ⟨i, hi, hoi, hti⟩ := hob m1 (by omega)
    rw [hoi]
    refine aw_go 1 74 [some (.ref 0), some (.int (nI j)), some (.int (nI b0))] [.int (nI j), .int (nI i), .ref 8] (rdH (nI (lv + 1)) (nI (b0 + (m1 + 1))) res lf lp sta bas obj nx sa kn vu f wa len cap (keys') (dp') (ln') mk pt (sl') (nI n') mark) rfl ?_
    refine aw_cV [8, 9, 10, 11, 12, 13, 14] (c_St_pairOf l cap n' keys' dp' ln' mk pt sl' mark e0 t' g1 i j (by omega) g2 (by omega)) rfl cw_Rd_122 rfl rfl rfl rfl rfl rfl (Nat.le_refl _) (Nat.le_refl _) (fun r h' hp => ?_)
    obtain ⟨j2, n2, keys2, dp2, ln2, sl2, t2, k1, k2, k3, k4, k5, k6, rfl, rfl⟩ := hp
    refine aw_go 7 88 [some (.ref 0), some (.int (nI j2)), some (.int (nI b0))] [] (rdH (nI (lv + 1)) ((nI (b0 + (m1 + 1))) - 1) res lf lp sta bas obj nx sa kn vu f wa len cap keys2 dp2 ln2 mk pt sl2 (nI n2) mark) rfl ?_
    rw [show nI (b0 + (m1 + 1)) - 1 = nI (b0 + m1) from nI_pred (b0 + m1)]
    refine aw_go 1 43 [some (.ref 0), some (.int (nI j2)), some (.int (nI b0))] [] (rdH (nI (lv + 1)) (nI (b0 + m1)) res lf lp sta bas obj nx sa kn vu f wa len cap keys2 dp2 ln2 mk pt sl2 (nI n2) mark) rfl ?_
    -- LOOP 43: [some (.ref 0), some (.int (nI j2)), some (.int (nI b0))] [] (rdH (nI (lv + 1)) (nI (b0 + m1)) res lf lp sta bas obj nx sa kn vu f wa len cap keys2 dp2 ln2 mk pt sl2 (nI n2) mark)
    exact ih (m1, j2, n2, keys2, dp2, ln2, sl2, t2) ⟨by show m1 ≤ _; omega, k1, k2, by show t2 j2 = _; rw [k3, g6 i hi, g3, rd_dr hti], by show n ≤ n2; omega, by show n2 ≤ _; omega, fun z hz => by show t2 z = t z; rw [k6 z (by omega)]; exact g6 z hz⟩ (by show m1 < m1 + 1; omega)
