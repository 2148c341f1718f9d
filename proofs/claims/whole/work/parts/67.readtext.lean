/-! Reader: readText -/
theorem rd_res {lv hd : Nat} {res : Int32} {sta bas obj : Nat → Int32} {t : Nat → Tr} {n : Nat} {fs : List Fr} {dn : Option Tr} (h : rd_R lv hd res sta bas obj t n fs dn) (hc : rd_cs 0 (ps_sg fs dn) = true) : ∃ i, i < n ∧ res = nI i ∧ dn = some (t i) := by
  have hs : ps_sg fs dn = 1 := by
    unfold rd_cs at hc
    rw [if_pos rfl] at hc
    exact of_decide_eq_true hc
  cases fs with
  | cons x r =>
    exfalso
    have : fr_sg x = 1 := hs
    unfold fr_sg at this
    split at this
    · cases this
    split at this
    · split at this <;> cases this
    split at this <;> cases this
  | nil =>
    cases dn with
    | none => cases hs
    | some T =>
      obtain ⟨-, i, h1, h2, h3⟩ := h.2.2.2.2.2.2.2.1 T rfl
      exact ⟨i, h1, h2, by rw [h3]⟩
set_option maxHeartbeats 2000000 in
set_option maxRecDepth 100000 in
theorem c_Rd_readText (l : Launch) (lev hel res lf lp nx sa kn mark : Int32) (vu : Int64) (cap : Nat) (keys : Nat → Int64) (sta bas obj f wa dp ln mk pt sl : Nat → Int32) (L : Nat) (T : Nat → Nat) (hT : tx_T f T L) (n e0 : Nat) (t : Nat → Tr) (h : st_ok cap n e0 keys dp ln sl t) (hcap : n + 2 * min L 1000 ≤ cap) : Con l y_Rd_readText M_Rd_readText 8 179 [.ref 0] (rdH lev hel res lf lp sta bas obj nx sa kn vu f wa (nI L) cap keys dp ln mk pt sl (nI n) mark) 15 0 0 0 (fun r h' => ∃ (lev2 hel2 res2 nx2 sa2 kn2 : Int32) (vu2 : Int64) (sta2 bas2 obj2 : Nat → Int32) (n2 : Nat) (keys2 : Nat → Int64) (dp2 ln2 sl2 : Nat → Int32) (t2 : Nat → Tr), st_ok cap n2 e0 keys2 dp2 ln2 sl2 t2 ∧ n ≤ n2 ∧ (∀ i, i < n → t2 i = t i) ∧ n2 ≤ n + 2 * tx_nz T L ∧ ((ps_rd T L 1001 0 1 [] none).1 = 0 → ∃ i, i < n2 ∧ res2 = nI i ∧ (ps_rd T L 1001 0 1 [] none).2.2 = some (t2 i)) ∧ r = some (.int (nI (ps_rd T L 1001 0 1 [] none).1)) ∧ h' = rdH lev2 hel2 res2 (nI (ps_rd T L 1001 0 1 [] none).1) (if (ps_rd T L 1001 0 1 [] none).1 = 0 then -1 else nI (ps_rd T L 1001 0 1 [] none).2.1) sta2 bas2 obj2 nx2 sa2 kn2 vu2 f wa (nI L) cap keys2 dp2 ln2 mk pt sl2 (nI n2) mark) := by
  refine Con.ent ok_Rd_readText (by decide +kernel) rfl ?_
  intro pA eA sA mA argsA belowA methA cA GA μA
  refine aw_go 2 4 [some (.ref 0), none] [.ref 1] (rdH lev hel res lf lp sta bas obj nx sa kn vu f wa (nI L) cap keys dp ln mk pt sl (nI n) mark) rfl ?_
  refine aw_cV [1, 2, 3, 4] (c_Wd_goToFront l f wa (nI L) nx sa kn vu) rfl cw_Rd_62 rfl rfl rfl rfl rfl rfl (Nat.le_refl _) (Nat.le_refl _) (fun r h' hp => ?_)
  obtain ⟨rfl, rfl⟩ := hp
  refine aw_go 10 23 [some (.ref 0), none] [.int 0, .int 0, .ref 5] (rdH 0 0 res lf lp sta bas obj 0 sa kn vu f wa (nI L) cap keys dp ln mk pt sl (nI n) mark) rfl ?_
  refine aw_iastN (i := 0) rfl rfl ⟨by omega, by omega⟩ ?_
  refine aw_go 5 31 [some (.ref 0), some (.int 1)] [] (rdH 0 0 res 0 lp (upd sta 0 0) bas obj 0 sa kn vu f wa (nI L) cap keys dp ln mk pt sl (nI n) mark) rfl ?_
  refine aw_loop (σ := Nat × am_H) (fun y => ∃ (p lv hd n' : Nat) (fs : List Fr) (dn : Option Tr) (res' sa' kn' : Int32) (vu' : Int64) (sta' bas' obj' : Nat → Int32) (keys' : Nat → Int64) (dp' ln' sl' : Nat → Int32) (t' : Nat → Tr), 1 ≤ y.1 ∧ y.1 ≤ 1001 ∧ p ≤ L ∧ y.1 ≤ tx_nz T p + 1 ∧ st_ok cap n' e0 keys' dp' ln' sl' t' ∧ rd_R lv hd res' sta' bas' obj' t' n' fs dn ∧ hd + 1 ≤ y.1 ∧ n' + hd + fs_pot fs + 2 ≤ n + 2 * y.1 ∧ n ≤ n' ∧ (∀ i, i < n → t' i = t i) ∧ ps_rd T L (1002 - y.1) p y.1 fs dn = (ps_rd T L 1001 0 1 [] none) ∧ y.2 = rdH (nI lv) (nI hd) (res') 0 lp (sta') (bas') (obj') (nI p) (sa') (kn') (vu') f wa (nI L) cap (keys') (dp') (ln') mk pt (sl') (nI n') mark) (fun y => 1002 - y.1) (fun y => [some (.ref 0), some (.int (nI y.1))]) (fun _ => []) (fun y => y.2) ?_ (1, rdH (nI 0) (nI 0) res 0 lp (upd sta 0 0) bas obj (nI 0) sa kn vu f wa (nI L) cap keys dp ln mk pt sl (nI n) mark) ⟨0, 0, 0, n, [], none, res, sa, kn, vu, upd sta 0 0, bas, obj, keys, dp, ln, sl, t, Nat.le_refl _, by show 1 ≤ 1001; omega, Nat.zero_le _, Nat.le_refl _, h, ⟨rfl, by simp, (fun x hx => nomatch hx), trivial, pk_us, rfl, fun m hm => absurd hm (by simp [fs_ob]), (fun T hT => nomatch hT), (fun x hx => nomatch hx)⟩, Nat.le_refl _, by show n + 0 + 0 + 2 ≤ n + 2 * 1; omega, Nat.le_refl _, fun _ _ => rfl, rfl, rfl⟩
  rintro ⟨nth, hh⟩ ⟨p, lv, hd, n', fs, dn, res', sa', kn', vu', sta', bas', obj', keys', dp', ln', sl', t', i1, i2, hp, i4, hst, hR, i7, i8, i9, i10, i11, i12⟩ ih
  dsimp only at i1 i2 i4 i7 i8 i11 i12 ih ⊢
  subst i12
  refine aw_go 2 35 [some (.ref 0), some (.int (nI nth))] [.int 1001, .int (nI nth)] (rdH (nI lv) (nI hd) (res') 0 lp (sta') (bas') (obj') (nI p) (sa') (kn') (vu') f wa (nI L) cap (keys') (dp') (ln') mk pt (sl') (nI n') mark) rfl ?_
  refine aw_cmp_gt rfl (fun h35 => absurd h35 (nI_nlt (b := nth) (a := 1001) (by omega) (by omega))) (fun h35 => ?_)
  refine aw_go 2 42 [some (.ref 0), some (.int (nI nth))] [.ref 1] (rdH (nI lv) (nI hd) (res') 0 lp (sta') (bas') (obj') (nI p) (sa') (kn') (vu') f wa (nI L) cap (keys') (dp') (ln') mk pt (sl') (nI n') mark) rfl ?_
  refine aw_cV [1, 2, 3, 4] (c_Wd_goOn l f wa L T hT p hp sa' kn' vu') rfl cw_Rd_71 rfl rfl rfl rfl rfl rfl (Nat.le_refl _) (Nat.le_refl _) (fun r h' hp => ?_)
  obtain ⟨rfl, rfl⟩ := hp
  generalize hs : tk_sk T (L - p) p false = s
  generalize hk : tk_kn T L s = k
  generalize hv2 : tk_vl T L s vu' = v2
  generalize hx : tk_nx T L s = x
  refine aw_go 4 51 [some (.ref 0), some (.int (nI nth))] [.ref 1, .ref 0, .ref 0] (rdH (nI lv) (nI hd) (res') 0 lp (sta') (bas') (obj') (nI x) (nI s) (nI k) v2 f wa (nI L) cap (keys') (dp') (ln') mk pt (sl') (nI n') mark) rfl ?_
  refine aw_cV [1, 2, 3, 4] (c_Wd_kind l f wa (nI L) (nI x) (nI s) (nI k) v2) rfl cw_Rd_74 rfl rfl rfl rfl rfl rfl (Nat.le_refl _) (Nat.le_refl _) (fun r h' hp => ?_)
  obtain ⟨rfl, rfl⟩ := hp
  refine aw_go 1 55 [some (.ref 0), some (.int (nI nth))] [.int (nI nth), .int (nI k), .ref 0, .ref 0] (rdH (nI lv) (nI hd) (res') 0 lp (sta') (bas') (obj') (nI x) (nI s) (nI k) v2 f wa (nI L) cap (keys') (dp') (ln') mk pt (sl') (nI n') mark) rfl ?_
  refine aw_cV [0, 1, 2, 3, 4, 5, 6, 7, 8, 9, 10, 11, 12, 13, 14] (c_Rd_faultOf l (nI hd) (res') 0 lp (nI x) (nI s) (nI k) (nI L) (nI n') mark v2 cap (keys') (sta') (bas') (obj') f wa (dp') (ln') mk pt (sl') lv (by have := hR.2.1; have := hR.1; omega) (ps_sg fs dn) nth (ps_sg_lt fs dn) hR.sg (by omega) k (by rw [← hk]; exact tk_kn_lt T L s)) rfl cw_Rd_77 rfl rfl rfl rfl rfl rfl (Nat.le_refl _) (Nat.le_refl _) (fun r h' hp => ?_)
  obtain ⟨rfl, rfl⟩ := hp
  generalize hf : rd_fl k v2 lv (ps_sg fs dn) nth = fl
  refine aw_go 3 65 [some (.ref 0), some (.int (nI nth))] [.int (nI fl)] (rdH (nI lv) (nI hd) (res') (nI fl) lp (sta') (bas') (obj') (nI x) (nI s) (nI k) v2 f wa (nI L) cap (keys') (dp') (ln') mk pt (sl') (nI n') mark) rfl ?_
  refine aw_if_ne rfl (fun h65 => ?_) (fun h65 => ?_)
  · refine aw_go 3 96 [some (.ref 0), some (.int (nI nth))] [.int (nI fl), .ref 0] (rdH (nI lv) (nI hd) (res') (nI fl) lp (sta') (bas') (obj') (nI x) (nI s) (nI k) v2 f wa (nI L) cap (keys') (dp') (ln') mk pt (sl') (nI n') mark) rfl ?_
    refine aw_if_ne rfl (fun h96 => ?_) (fun h96 => absurd h96 h65)
    refine aw_go 2 107 [some (.ref 0), some (.int (nI nth))] [.ref 1, .ref 0] (rdH (nI lv) (nI hd) (res') (nI fl) lp (sta') (bas') (obj') (nI x) (nI s) (nI k) v2 f wa (nI L) cap (keys') (dp') (ln') mk pt (sl') (nI n') mark) rfl ?_
    refine aw_cV [1, 2, 3, 4] (c_Wd_start l f wa (nI L) (nI x) (nI s) (nI k) v2) rfl cw_Rd_83 rfl rfl rfl rfl rfl rfl (Nat.le_refl _) (Nat.le_refl _) (fun r h' hp => ?_)
    obtain ⟨rfl, rfl⟩ := hp
    refine aw_go 3 117 [some (.ref 0), some (.int (nI nth))] [.int (nI fl)] (rdH (nI lv) (nI hd) (res') (nI fl) (nI s) (sta') (bas') (obj') (nI x) (nI s) (nI k) v2 f wa (nI L) cap (keys') (dp') (ln') mk pt (sl') (nI n') mark) rfl ?_
    exact aw_iret rfl rfl rfl (by have hf0 : rd_fl k (tk_vl T L s 0) fs.length (ps_sg fs dn) nth = fl := (by rw [← hf, ← hv2, ← hR.1, ← hk]; exact rd_fl_v 0 vu'); have hfin : (ps_rd T L 1001 0 1 [] none) = (fl, s, none) := (by rw [← i11, show 1002 - nth = (1001 - nth) + 1 by omega]; exact ps_rd_f hs hk hf0 (fun z => h65 (by rw [z]; rfl))); rw [hfin]; have hz : ¬ fl = 0 := fun z => h65 (by rw [z]; rfl); exact ⟨nI lv, nI hd, res', nI x, nI s, nI k, v2, sta', bas', obj', n', keys', dp', ln', sl', t', hst, i9, i10, by have := tx_nz_mono T hp; omega, fun z => absurd z hz, rfl, by rw [if_neg hz]⟩) rfl (Nat.le_refl _) (Nat.le_refl _) -- [.int (nI fl)] (rdH (nI lv) (nI hd) (res') (nI fl) (nI s) (sta') (bas') (obj') (nI x) (nI s) (nI k) v2 f wa (nI L) cap (keys') (dp') (ln') mk pt (sl') (nI n') mark)
  · have hfl : fl = 0 := nI_inj (by have := rd_fl_lt k v2 lv (ps_sg fs dn) nth; omega) (by omega) h65
    subst hfl
    refine aw_go 2 72 [some (.ref 0), some (.int (nI nth))] [.ref 1] (rdH (nI lv) (nI hd) (res') 0 lp (sta') (bas') (obj') (nI x) (nI s) (nI k) v2 f wa (nI L) cap (keys') (dp') (ln') mk pt (sl') (nI n') mark) rfl ?_
    refine aw_cV [1, 2, 3, 4] (c_Wd_kind l f wa (nI L) (nI x) (nI s) (nI k) v2) rfl cw_Rd_74 rfl rfl rfl rfl rfl rfl (Nat.le_refl _) (Nat.le_refl _) (fun r h' hp => ?_)
    obtain ⟨rfl, rfl⟩ := hp
    refine aw_go 0 75 [some (.ref 0), some (.int (nI nth))] [.int (nI k)] (rdH (nI lv) (nI hd) (res') 0 lp (sta') (bas') (obj') (nI x) (nI s) (nI k) v2 f wa (nI L) cap (keys') (dp') (ln') mk pt (sl') (nI n') mark) rfl ?_
    refine aw_if_ne rfl (fun h75 => ?_) (fun h75 => ?_)
    · have hf0 : rd_fl k (tk_vl T L s 0) fs.length (ps_sg fs dn) nth = 0 := (by rw [← hf, ← hv2, ← hR.1, ← hk]; exact rd_fl_v 0 vu')
      obtain ⟨f1, f2, f3, f4, f5⟩ := rd_fl0 hf
      have hk0 : k ≠ 0 := fun z => h75 (by rw [z]; rfl)
      have f5 := f5 hk0
      have hsp := (tk_sk_le T (L - p) p false).1
      rw [hs] at hsp
      obtain ⟨z1, z2, z3, z4⟩ := tk_nz (T := T) (L := L) (s := s) (by rw [hk]; exact hk0) (by rw [hk]; exact f1)
      have z5 := tx_nz_s z2 z3
      have z6 := tx_nz_mono T hsp
      have z7 := tx_nz_le T s
      rw [hx] at z3 z4 z5
      have hat : k = 6 ∨ k = 7 → ∃ v, v < 4611686018427387904 ∧ v2 = lN v ∧ ((k = 6 ∧ tk_tr T L s = tr_nat v) ∨ (k = 7 ∧ tk_tr T L s = tr_sym v)) := by
        intro z
        have z9 := f2 z
        rw [← hv2] at z9 ⊢
        rw [← hk] at z ⊢
        exact tk_atom (tk_kn67.mp z) z9
      have hmin : nth ≤ min L 1000 := by omega
      refine aw_go 1 82 [some (.ref 0), some (.int (nI nth))] [.ref 0] (rdH (nI lv) (nI hd) (res') 0 lp (sta') (bas') (obj') (nI x) (nI s) (nI k) v2 f wa (nI L) cap (keys') (dp') (ln') mk pt (sl') (nI n') mark) rfl ?_
      refine aw_cV [0, 1, 2, 3, 4, 5, 6, 7, 8, 9, 10, 11, 12, 13, 14] (c_Rd_takeWord l (res') 0 lp (nI x) (nI s) (nI L) mark v2 cap (keys') (sta') (bas') (obj') f wa (dp') (ln') mk pt (sl') n' e0 t' hst lv hd fs dn hR (by omega) (by omega) (tk_tr T L s) k ⟨by omega, by rw [← hk]; have := tk_kn_lt T L s; omega⟩ (fun z => by rcases hat (Or.inl z) with ⟨v, q1, q2, q3 | q3⟩; exact ⟨v, q1, q2, q3.2⟩; omega) (fun z => by rcases hat (Or.inr z) with ⟨v, q1, q2, q3 | q3⟩; omega; exact ⟨v, q1, q2, q3.2⟩) f3 f4) rfl cw_Rd_80 rfl rfl rfl rfl rfl rfl (Nat.le_refl _) (Nat.le_refl _) (fun r h' hp => ?_)
      obtain ⟨rfl, lv2, hd2, res2, sta2, bas2, obj2, n3, keys3, dp3, ln3, sl3, t3, p1, p2, p3, p4, p5, rfl⟩ := hp
      refine aw_go 2 31 [some (.ref 0), some (.int ((nI nth) + 1))] [] (rdH (nI lv2) (nI hd2) res2 0 lp sta2 bas2 obj2 (nI x) (nI s) (nI k) v2 f wa (nI L) cap keys3 dp3 ln3 mk pt sl3 (nI n3) mark) rfl ?_
      -- LOOP 31: [some (.ref 0), some (.int ((nI nth) + 1))] [] (rdH (nI lv2) (nI hd2) res2 0 lp sta2 bas2 obj2 (nI x) (nI s) (nI k) v2 f wa (nI L) cap keys3 dp3 ln3 mk pt sl3 (nI n3) mark)
      exact aw_eq (by simp only [nI_succ]) rfl rfl (ih (nth + 1, _) ⟨x, lv2, hd2, n3, (ps_step fs dn k (tk_tr T L s)).1, (ps_step fs dn k (tk_tr T L s)).2, res2, nI s, nI k, v2, sta2, bas2, obj2, keys3, dp3, ln3, sl3, t3, by show 1 ≤ nth + 1; omega, by show nth + 1 ≤ 1001; omega, by omega, by show nth + 1 ≤ _; omega, p1, p2, by show hd2 + 1 ≤ nth + 1; have := ps_step_ob fs dn k (tk_tr T L s) hR.2.2.1 (fun z => by rw [z] at f3; exact rd_cs_5 f3); have := p2.2.2.2.2.2.1; have := hR.2.2.2.2.2.1; omega, by show n3 + hd2 + fs_pot _ + 2 ≤ n + 2 * (nth + 1); omega, by omega, fun i hi => by rw [p4 i (by omega)]; exact i10 i hi, by rw [← i11, show 1002 - nth = (1002 - (nth + 1)) + 1 by omega, ps_rd_s hs hk hf0 rfl hk0, hx], rfl⟩ (by show 1002 - (nth + 1) < 1002 - nth; omega))
    · refine aw_go 4 96 [some (.ref 0), some (.int (nI nth))] [.int 0, .ref 0] (rdH (nI lv) (nI hd) (res') 0 lp (sta') (bas') (obj') (nI x) (nI s) (nI k) v2 f wa (nI L) cap (keys') (dp') (ln') mk pt (sl') (nI n') mark) rfl ?_
      refine aw_if_ne rfl (fun h96 => absurd h96 (by decide)) (fun h96 => ?_)
      refine aw_go 5 117 [some (.ref 0), some (.int (nI nth))] [.int 0] (rdH (nI lv) (nI hd) (res') 0 (-1) (sta') (bas') (obj') (nI x) (nI s) (nI k) v2 f wa (nI L) cap (keys') (dp') (ln') mk pt (sl') (nI n') mark) rfl ?_
      exact aw_iret rfl rfl rfl (by have hf0 : rd_fl k (tk_vl T L s 0) fs.length (ps_sg fs dn) nth = 0 := (by rw [← hf, ← hv2, ← hR.1, ← hk]; exact rd_fl_v 0 vu'); have hk0 : k = 0 := nI_inj (by have := tk_kn_lt T L s; omega) (by omega) h75; have hfin : (ps_rd T L 1001 0 1 [] none) = (0, 0, dn) := (by rw [← i11, show 1002 - nth = (1001 - nth) + 1 by omega]; exact ps_rd_e hs hk hf0 rfl hk0); rw [hfin]; exact ⟨nI lv, nI hd, res', nI x, nI s, nI k, v2, sta', bas', obj', n', keys', dp', ln', sl', t', hst, i9, i10, by have := tx_nz_mono T hp; omega, fun _ => rd_res hR (by rw [hk0] at hf; exact (rd_fl0 hf).2.2.1), rfl, rfl⟩) rfl (Nat.le_refl _) (Nat.le_refl _) -- [.int 0] (rdH (nI lv) (nI hd) (res') 0 (-1) (sta') (bas') (obj') (nI x) (nI s) (nI k) v2 f wa (nI L) cap (keys') (dp') (ln') mk pt (sl') (nI n') mark)
