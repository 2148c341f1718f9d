/-! the model: reads -/
theorem tk_sk_bd {T : Nat → Nat} {L x : Nat} (h : x ≤ L) : x ≤ tk_sk T (L - x) x false ∧ tk_sk T (L - x) x false ≤ L := by
  have := tk_sk_le T (L - x) x false
  omega
theorem tk_kn0 {T : Nat → Nat} {L s : Nat} (h : tk_kn T L s = 0) : L ≤ s := by
  rcases Nat.lt_or_ge s L with z | z
  · exfalso
    unfold tk_kn at h
    split at h
    · split at h <;> cases h
    · unfold tk_kd at h
      rw [if_pos z] at h
      repeat' split at h
      all_goals cases h
  · exact z
theorem kd7_at {T : Nat → Nat} {L s : Nat} (h : tk_kd T L s = 7) : sg_at (T s) = true := by
  unfold tk_kd at h
  split at h
  · repeat' split at h
    all_goals first | assumption | cases h
  · cases h
theorem sg_at_0 {c : Nat} (h : sg_at c = true) : c ≠ 0 := fun z => by rw [z] at h; cases h
theorem mw_n {T : Nat → Nat} {L s n n' w X n2 P : Nat} (hs : s < L) (a5 : n' + X + P ≤ n + 2 * w) (a7 : w ≤ tx_nz T s) (m3 : n2 ≤ n' + (if tk_kd T L s = 7 then 1 else 0)) : n2 ≤ n + 2 * tx_nz T L := by
  have h1 := tx_nz_mono T (show s ≤ L by omega)
  by_cases z : tk_kd T L s = 7
  · rw [if_pos z] at m3
    have := tx_nz_s (sg_at_0 (kd7_at z)) hs
    omega
  · rw [if_neg z] at m3
    omega
theorem mw_s {T : Nat → Nat} {L s ns ns' ns2 : Nat} (hs : s < L) (a8 : 2 * ns' ≤ 2 * ns + tx_nz T s ∨ ((L ≤ s ∨ sg_at (T s) = false) ∧ 2 * ns' ≤ 2 * ns + tx_nz T s + 1)) (m5 : ns2 ≤ ns' + (if tk_kd T L s = 7 then 1 else 0)) : 2 * ns2 ≤ 2 * ns + tx_nz T L + 1 := by
  have h1 := tx_nz_mono T (show s ≤ L by omega)
  by_cases z : tk_kd T L s = 7
  · rw [if_pos z] at m5
    have h2 := kd7_at z
    have := tx_nz_s (sg_at_0 h2) hs
    rcases a8 with a8 | ⟨a8 | a8, -⟩
    · omega
    · omega
    · rw [h2] at a8; cases a8
  · rw [if_neg z] at m5
    rcases a8 with a8 | ⟨-, a8⟩ <;> omega
theorem tk_run_end (T : Nat → Nat) : ∀ (q p : Nat) (b : Bool) (e : Nat) (c : Bool), tk_run T q p b = (e, c) → e = p + q ∨ sg_at (T e) = false := by
  intro q
  induction q with
  | zero => intro p b e c h; cases h; exact Or.inl rfl
  | succ q ih =>
    intro p b e c h
    unfold tk_run at h
    by_cases ha : sg_at (T p) = true
    · rw [if_pos ha] at h
      rcases ih _ _ _ _ h with z | z
      · exact Or.inl (by omega)
      · exact Or.inr z
    · rw [if_neg ha] at h
      cases h
      exact Or.inr (Bool.eq_false_iff.mpr ha)
theorem sk_nz {T : Nat → Nat} {L x : Nat} (h : x ≤ L) : tk_sk T (L - x) x false = x ∨ (x < tk_sk T (L - x) x false ∧ T x ≠ 0) := by
  rcases Nat.lt_or_ge x L with z | z
  · rw [tk_sk_s z]
    have g := fun b => tk_sk_le T (L - (x + 1)) (x + 1) b
    by_cases a : T x = 10
    · rw [if_pos a]; have := g false; exact Or.inr ⟨by omega, by omega⟩
    · rw [if_neg a]
      by_cases b : T x = 59
      · rw [if_pos b]; have := g true; exact Or.inr ⟨by omega, by omega⟩
      · rw [if_neg b]
        by_cases c : T x = 32 ∨ (false : Bool) = true
        · rw [if_pos c]
          have := g false
          rcases c with c | c
          · exact Or.inr ⟨by omega, by omega⟩
          · cases c
        · rw [if_neg c]; exact Or.inl rfl
  · exact Or.inl (sk_end z)
theorem mw_a {T : Nat → Nat} {L s ns ns' ns2 : Nat} {b0 : Bool} (hs : s < L) (a8 : 2 * ns' ≤ 2 * ns + tx_nz T s ∨ ((L ≤ s ∨ sg_at (T s) = false) ∧ 2 * ns' ≤ 2 * ns + tx_nz T s + 1)) (m4 : ns2 ≤ ns' + (if tk_kd T L s = 7 then 1 else 0)) (z5 : tx_nz T s + 1 ≤ tx_nz T (tk_nx T L s)) (hx1 : s < tk_nx T L s) (hx : tk_nx T L s ≤ L) : 2 * ns2 ≤ 2 * ns + tx_nz T (tk_sk T (L - tk_nx T L s) (tk_nx T L s) false) ∨ ((L ≤ tk_sk T (L - tk_nx T L s) (tk_nx T L s) false ∨ sg_at (T (tk_sk T (L - tk_nx T L s) (tk_nx T L s) false)) = false) ∧ 2 * ns2 ≤ 2 * ns + tx_nz T (tk_sk T (L - tk_nx T L s) (tk_nx T L s) false) + 1) := by
  have h6 := tx_nz_mono T (tk_sk_bd (T := T) hx).1
  by_cases z : tk_kd T L s = 7
  · rw [if_pos z] at m4
    have h2 := kd7_at z
    have h3 : 2 * ns' ≤ 2 * ns + tx_nz T s := by
      rcases a8 with a8 | ⟨a8 | a8, -⟩
      · exact a8
      · omega
      · rw [h2] at a8; cases a8
    rcases sk_nz (T := T) hx with y | ⟨y1, y2⟩
    · rw [y]
      refine Or.inr ⟨?_, by omega⟩
      rcases hr : tk_run T (L - s) s true with ⟨e, c⟩
      have he : tk_nx T L s = e := by rw [tk_nx_7 z, hr]
      rcases tk_run_end T _ _ _ _ _ hr with q | q
      · exact Or.inl (by omega)
      · rw [he]; exact Or.inr q
    · have := tx_nz_s y2 y1
      exact Or.inl (by omega)
  · rw [if_neg z] at m4
    refine Or.inl ?_
    rcases a8 with a8 | ⟨-, a8⟩ <;> omega
theorem sg_end {vu : Int64} {lv nth : Nat} {fs : List Fr} {dT : Option Tr} (h : dT.isSome = false) : rd_fl 0 vu lv (ps_sg fs dT) nth = 3 := by
  have : rd_cs 0 (ps_sg fs dT) = false := by
    unfold rd_cs
    rw [if_pos rfl]
    cases fs with
    | nil => cases dT with
      | none => rfl
      | some T => cases h
    | cons x r =>
      have h1 : ps_sg (x :: r) dT ≠ 1 := by
        show fr_sg x ≠ 1
        unfold fr_sg
        repeat' split
        all_goals omega
      exact decide_eq_false h1
  simp [rd_fl, this]
theorem ps_del_it2 (fs : List Fr) : ∀ (T : Tr), (∀ x ∈ fs, fr_ok x) → (fs_it (ps_del fs T).1).length ≤ (fs_it fs).length + 1 := by
  induction fs with
  | nil => intro T _; simp [ps_del, fs_it]
  | cons x r ih =>
    intro T hok
    cases hx : x.1 with
    | true =>
      rw [ps_del_q hx, fs_it_q (hok x List.mem_cons_self) hx]
      exact ih _ (fun y hy => hok y (List.mem_cons_of_mem _ hy))
    | false =>
      by_cases h1 : x.2.1 = 1
      · have hd1 : ps_del (x :: r) T = ((false, 2, x.2.2.1, T) :: r, none) := by
          simp only [ps_del]
          rw [if_neg (by rw [hx]; decide), if_pos h1]
        rw [hd1]
        simp only [fs_it, List.length_append]
        omega
      · have hd1 : ps_del (x :: r) T = ((false, x.2.1, x.2.2.1 ++ [T], x.2.2.2) :: r, none) := by
          simp only [ps_del]
          rw [if_neg (by rw [hx]; decide), if_neg h1]
        rw [hd1]
        simp only [fs_it, List.length_append, List.length_singleton]
        omega
theorem ps_step_it (fs : List Fr) (dT : Option Tr) (k : Nat) (T : Tr) (hok : ∀ x ∈ fs, fr_ok x) : (fs_it (ps_step fs dT k T).1).length ≤ (fs_it fs).length + 1 := by
  unfold ps_step
  by_cases h2 : k = 2
  · rw [if_pos h2]; simp only [fs_it, List.append_nil]; omega
  rw [if_neg h2]
  by_cases h4 : k = 4
  · rw [if_pos h4]; simp only [fs_it, List.append_nil]; omega
  rw [if_neg h4]
  by_cases h5 : k = 5
  · rw [if_pos h5]
    cases fs with
    | nil => simp [fs_it]
    | cons x r => simp only [fs_it, List.length_append]; omega
  rw [if_neg h5]
  by_cases h3 : k = 3
  · rw [if_pos h3]
    cases fs with
    | nil => simp [fs_it]
    | cons x r =>
      have := ps_del_it2 r (fr_tr x) (fun y hy => hok y (List.mem_cons_of_mem _ hy))
      simp only [fs_it, List.length_append]
      omega
  rw [if_neg h3]
  exact ps_del_it2 fs T hok
set_option maxHeartbeats 2000000 in
set_option maxRecDepth 100000 in
theorem c_Mo_reads (l : Launch) (lf rt nx sz hg : Nat → Int32) (nu : Nat → Int64) (hd nm le pl wa tx ou : Nat → Int32) (os : Int32) (wd : Nat → Int32) (ws : Int32) (tw : Nat → Int32) (tg : Int32) (o1 : Nat → Int32) (s1 atp rf rp : Int32) (pS pF pT pL : Nat → Int32) (op : Int32) (it : Nat → Int32) (isz wh dn : Int32) (wk me : Nat → Int32) (sh : Int32) (ot : Nat → Int32) (n ns : Nat) (t : Nat → Tr) (hm : mo_tb n ns lf rt nx hg nu hd nm le t) (T : Nat → Nat) (L : Nat) (hT : tx_T tx T L) (h01 : 2 ≤ n ∧ t 0 = tr_nil ∧ t 1 = tr_quote) (hbn : n + 2 * tx_nz T L + 10 ≤ 16000) (hbs : 2 * ns + tx_nz T L + 1 ≤ 5990) : Con l y_Mo_reads M_Mo_reads 6 138 [.ref 0] (moH lf rt nx sz hg nu hd (nI n) nm le (nI ns) pl wa tx (nI L) ou os wd ws tw tg o1 s1 atp rf rp pS pF pT pL op it isz wh dn wk me sh ot) 25 0 0 0 (fun r h' => ∃ (n2 ns2 : Nat) (lf2 rt2 nx2 sz2 hg2 : Nat → Int32) (nu2 : Nat → Int64) (hd2 nm2 le2 wd2 pS2 pF2 pT2 pL2 it2 : Nat → Int32) (ws2 atp2 op2 isz2 wh2 dn2 : Int32) (t2 : Nat → Tr), mo_tb n2 ns2 lf2 rt2 nx2 hg2 nu2 hd2 nm2 le2 t2 ∧ n ≤ n2 ∧ n2 ≤ n + 2 * tx_nz T L ∧ ns ≤ ns2 ∧ 2 * ns2 ≤ 2 * ns + tx_nz T L + 1 ∧ (∀ i, i < n → t2 i = t i) ∧ ((ps_rd T L 1001 0 1 [] none).1 = 0 → ∃ i, i < n2 ∧ wh2 = nI i ∧ (ps_rd T L 1001 0 1 [] none).2.2 = some (t2 i)) ∧ r = some (.int (if (ps_rd T L 1001 0 1 [] none).1 = 0 then 1 else 0)) ∧ h' = moH lf2 rt2 nx2 sz2 hg2 nu2 hd2 (nI n2) nm2 le2 (nI ns2) pl wa tx 0 ou os wd2 ws2 tw tg o1 s1 atp2 (nI (ps_rd T L 1001 0 1 [] none).1) (if (ps_rd T L 1001 0 1 [] none).1 = 0 then -1 else nI (ps_rd T L 1001 0 1 [] none).2.1) pS2 pF2 pT2 pL2 op2 it2 isz2 wh2 dn2 wk me sh ot) := by
  have hL := hT.1
  refine Con.ent ok_Mo_reads (by decide +kernel) rfl ?_
  intro pA eA sA mA argsA belowA methA cA GA μA
  refine aw_go 21 33 [some (.ref 0), some (.int 0)] [.ref 0] (moH lf rt nx sz hg nu hd (nI n) nm le (nI ns) pl wa tx (nI L) ou os wd ws tw tg o1 s1 0 0 (-1) pS pF pT pL 0 it 0 wh 0 wk me sh ot) rfl ?_
  refine aw_cV [0, 1, 2, 3, 4, 5, 6, 7, 8, 9, 10, 11, 12, 13, 14, 15, 16, 17, 18, 19, 20, 21, 22, 23, 24] (c_Mo_skip l lf rt nx sz hg nu hd (nI n) nm le (nI ns) pl wa tx ou os wd ws tw tg o1 s1 0 (-1) pS pF pT pL 0 it 0 wh 0 wk me sh ot T L hT 0 (Nat.zero_le _)) rfl cw_Mo_194 rfl rfl rfl rfl rfl rfl (Nat.le_refl _) (Nat.le_refl _) (fun r h' hp => ?_)
  obtain ⟨rfl, rfl⟩ := hp
  refine aw_go 0 36 [some (.ref 0), some (.int 0)] [] (moH lf rt nx sz hg nu hd (nI n) nm le (nI ns) pl wa tx (nI L) ou os wd ws tw tg o1 s1 (nI (tk_sk T (L - 0) 0 false)) 0 (-1) pS pF pT pL 0 it 0 wh 0 wk me sh ot) rfl ?_
  refine aw_loop (σ := Nat × am_H) (fun y => ∃ (f p s n' ns' : Nat) (fs : List Fr) (dT : Option Tr) (lf' rt' nx' sz' hg' : Nat → Int32) (nu' : Nat → Int64) (hd' nm' le' wd' pS' pF' pT' pL' it' : Nat → Int32) (ws' op' isz' wh' dn' rp' : Int32) (t' : Nat → Tr), mo_tb n' ns' lf' rt' nx' hg' nu' hd' nm' le' t' ∧ n ≤ n' ∧ n' ≤ n + 2 * tx_nz T L ∧ ns ≤ ns' ∧ 2 * ns' ≤ 2 * ns + tx_nz T L + 1 ∧ (∀ i, i < n → t' i = t i) ∧ s ≤ L ∧ y.1 ≤ 1001 ∧ (f ≠ 0 → f < 2 ^ 31 ∧ (ps_rd T L 1001 0 1 [] none) = (f, p, none) ∧ rp' = nI p) ∧ (f = 0 → (y.1 ≤ 1000 ∧ p ≤ L ∧ tk_sk T (L - p) p false = s ∧ mr_R n' t' pS' pF' pT' pL' it' op' isz' wh' dn' fs dT ∧ n' + (fs_it fs).length + fs_pot fs ≤ n + 2 * y.1 ∧ (fs_it fs).length ≤ y.1 ∧ y.1 ≤ tx_nz T s ∧ (2 * ns' ≤ 2 * ns + tx_nz T s ∨ ((L ≤ s ∨ sg_at (T s) = false) ∧ 2 * ns' ≤ 2 * ns + tx_nz T s + 1)) ∧ ps_rd T L (1002 - (y.1 + 1)) p (y.1 + 1) fs dT = (ps_rd T L 1001 0 1 [] none) ∧ rp' = -1)) ∧ y.2 = moH lf' rt' nx' sz' hg' nu' hd' (nI n') nm' le' (nI ns') pl wa tx (nI L) ou os wd' ws' tw tg o1 s1 (nI s) (nI f) rp' pS' pF' pT' pL' op' it' isz' wh' dn' wk me sh ot) (fun y => 1002 - y.1) (fun y => [some (.ref 0), some (.int (nI y.1))]) (fun _ => []) (fun y => y.2) ?_ (0, moH lf rt nx sz hg nu hd (nI n) nm le (nI ns) pl wa tx (nI L) ou os wd ws tw tg o1 s1 (nI (tk_sk T (L - 0) 0 false)) (nI 0) (-1) pS pF pT pL (nI 0) it (nI 0) wh 0 wk me sh ot) ⟨0, 0, _, n, ns, [], none, lf, rt, nx, sz, hg, nu, hd, nm, le, wd, pS, pF, pT, pL, it, ws, nI 0, nI 0, wh, 0, -1, t, hm, Nat.le_refl _, by omega, Nat.le_refl _, by omega, fun _ _ => rfl, by have := (tk_sk_le T (L - 0) 0 false).2; omega, by show 0 ≤ 1001; omega, fun z => absurd rfl z, fun _ => ⟨Nat.zero_le _, Nat.zero_le _, rfl, ⟨rfl, by simp, (fun x hx => nomatch hx), trivial, rfl, fun m hm => absurd hm (by simp [fs_it]), rfl, (fun T hT => nomatch hT), (fun x hx => nomatch hx)⟩, by show n + 0 + 0 ≤ n + 2 * 0; omega, Nat.le_refl _, Nat.zero_le _, Or.inl (by omega), rfl, rfl⟩, rfl⟩
  rintro ⟨w, hh⟩ ⟨f, p, s, n', ns', fs, dT, lf', rt', nx', sz', hg', nu', hd', nm', le', wd', pS', pF', pT', pL', it', ws', op', isz', wh', dn', rp', t', i1, i2, i3, i4, i5, i6, i7, i8, i9, i10, i11⟩ ih
  dsimp only at i8 i10 i11 ih ⊢
  subst i11
  refine aw_go 2 40 [some (.ref 0), some (.int (nI w))] [.int (nI f)] (moH lf' rt' nx' sz' hg' nu' hd' (nI n') nm' le' (nI ns') pl wa tx (nI L) ou os wd' ws' tw tg o1 s1 (nI s) (nI f) rp' pS' pF' pT' pL' op' it' isz' wh' dn' wk me sh ot) rfl ?_
  refine aw_if_ne rfl (fun h40 => ?_) (fun h40 => ?_)
  · refine aw_go 2 73 [some (.ref 0), some (.int (nI w))] [.int (nI f)] (moH lf' rt' nx' sz' hg' nu' hd' (nI n') nm' le' (nI ns') pl wa tx (nI L) ou os wd' ws' tw tg o1 s1 (nI s) (nI f) rp' pS' pF' pT' pL' op' it' isz' wh' dn' wk me sh ot) rfl ?_
    refine aw_if_ne rfl (fun h73 => ?_) (fun h73 => absurd h73 h40)
    refine aw_go 5 101 [some (.ref 0), some (.int (nI w))] [.int (nI f)] (moH lf' rt' nx' sz' hg' nu' hd' (nI n') nm' le' (nI ns') pl wa tx 0 ou os wd' ws' tw tg o1 s1 (nI s) (nI f) rp' pS' pF' pT' pL' op' it' isz' wh' dn' wk me sh ot) rfl ?_
    refine aw_if_ne rfl (fun h101 => ?_) (fun h101 => absurd h101 h40)
    refine aw_go 1 109 [some (.ref 0), some (.int (nI w))] [.int 0] (moH lf' rt' nx' sz' hg' nu' hd' (nI n') nm' le' (nI ns') pl wa tx 0 ou os wd' ws' tw tg o1 s1 (nI s) (nI f) rp' pS' pF' pT' pL' op' it' isz' wh' dn' wk me sh ot) rfl ?_
    exact aw_iret rfl (by decide) rfl (by obtain ⟨j1, j2, j3⟩ := i9 (show ¬ f = 0 from fun y => h40 (by rw [y]; rfl)); rw [j2]; exact ⟨n', ns', lf', rt', nx', sz', hg', nu', hd', nm', le', wd', pS', pF', pT', pL', it', ws', _, op', isz', wh', dn', t', i1, i2, i3, i4, i5, i6, fun z => absurd z (show ¬ f = 0 from fun y => h40 (by rw [y]; rfl)), by rw [if_neg (show ¬ f = 0 from fun y => h40 (by rw [y]; rfl))], by rw [if_neg (show ¬ f = 0 from fun y => h40 (by rw [y]; rfl)), j3]⟩) rfl (Nat.le_refl _) (Nat.le_refl _) -- [.int 0] (moH lf' rt' nx' sz' hg' nu' hd' (nI n') nm' le' (nI ns') pl wa tx 0 ou os wd' ws' tw tg o1 s1 (nI s) (nI f) rp' pS' pF' pT' pL' op' it' isz' wh' dn' wk me sh ot)
  · obtain rfl : f = 0 := (by rcases Nat.eq_zero_or_pos f with z | z; exact z; exact nI_inj (b := 0) (i9 (by omega)).1 (by omega) h40)
    obtain ⟨a1, a2, a3, a4, a5, a6, a7, a8, a9, rfl⟩ := i10 rfl
    obtain rfl := a4.1
    obtain rfl := a4.2.2.2.2.1
    refine aw_go 4 51 [some (.ref 0), some (.int (nI w))] [.int (nI L), .int (nI s)] (moH lf' rt' nx' sz' hg' nu' hd' (nI n') nm' le' (nI ns') pl wa tx (nI L) ou os wd' ws' tw tg o1 s1 (nI s) 0 (-1) pS' pF' pT' pL' (nI fs.length) it' (nI (fs_it fs).length) wh' dn' wk me sh ot) rfl ?_
    refine aw_cmp_ge rfl (fun h51 => ?_) (fun h51 => ?_)
    · refine aw_go 2 73 [some (.ref 0), some (.int (nI w))] [.int 0] (moH lf' rt' nx' sz' hg' nu' hd' (nI n') nm' le' (nI ns') pl wa tx (nI L) ou os wd' ws' tw tg o1 s1 (nI s) 0 (-1) pS' pF' pT' pL' (nI fs.length) it' (nI (fs_it fs).length) wh' dn' wk me sh ot) rfl ?_
      refine aw_if_ne rfl (fun h73 => absurd h73 (by decide)) (fun h73 => ?_)
      refine aw_go 2 80 [some (.ref 0), some (.int (nI w))] [.int dn'] (moH lf' rt' nx' sz' hg' nu' hd' (nI n') nm' le' (nI ns') pl wa tx (nI L) ou os wd' ws' tw tg o1 s1 (nI s) 0 (-1) pS' pF' pT' pL' (nI fs.length) it' (nI (fs_it fs).length) wh' dn' wk me sh ot) rfl ?_
      refine aw_if_ne rfl (fun h80 => ?_) (fun h80 => ?_)
      · refine aw_go 5 101 [some (.ref 0), some (.int (nI w))] [.int 0] (moH lf' rt' nx' sz' hg' nu' hd' (nI n') nm' le' (nI ns') pl wa tx 0 ou os wd' ws' tw tg o1 s1 (nI s) 0 (-1) pS' pF' pT' pL' (nI fs.length) it' (nI (fs_it fs).length) wh' dn' wk me sh ot) rfl ?_
        refine aw_if_ne rfl (fun h101 => absurd h101 (by decide)) (fun h101 => ?_)
        refine aw_go 2 109 [some (.ref 0), some (.int (nI w))] [.int 1] (moH lf' rt' nx' sz' hg' nu' hd' (nI n') nm' le' (nI ns') pl wa tx 0 ou os wd' ws' tw tg o1 s1 (nI s) 0 (-1) pS' pF' pT' pL' (nI fs.length) it' (nI (fs_it fs).length) wh' dn' wk me sh ot) rfl ?_
        exact aw_iret rfl (by decide) rfl (by have hsL : L ≤ s := le_n (by omega) (by omega) h51; have hkn : tk_kn T L s = 0 := (by rw [tk_kn_n (by rw [tk_kd_end hsL]; decide)]; exact tk_kd_end hsL); have hds : dT.isSome = true := rb_n0 (by rw [← a4.2.2.2.2.2.2.1]; exact h80); obtain ⟨D, rfl⟩ := Option.isSome_iff_exists.mp hds; obtain ⟨rfl, i0, k1, k2, k3⟩ := a4.2.2.2.2.2.2.2.1 D rfl; have hfin : (ps_rd T L 1001 0 1 [] none) = (0, 0, some D) := (by rw [← a9, show 1002 - (w + 1) = (1001 - (w + 1)) + 1 by omega]; exact ps_rd_e a3 hkn rfl rfl rfl); rw [hfin]; exact ⟨n', ns', lf', rt', nx', sz', hg', nu', hd', nm', le', wd', pS', pF', pT', pL', it', ws', _, _, _, wh', dn', t', i1, i2, i3, i4, i5, i6, fun _ => ⟨i0, k1, k2, by rw [k3]⟩, rfl, rfl⟩) rfl (Nat.le_refl _) (Nat.le_refl _) -- [.int 1] (moH lf' rt' nx' sz' hg' nu' hd' (nI n') nm' le' (nI ns') pl wa tx 0 ou os wd' ws' tw tg o1 s1 (nI s) 0 (-1) pS' pF' pT' pL' (nI fs.length) it' (nI (fs_it fs).length) wh' dn' wk me sh ot)
      · refine aw_go 4 89 [some (.ref 0), some (.int (nI w))] [.int (nI L), .int 3, .ref 0] (moH lf' rt' nx' sz' hg' nu' hd' (nI n') nm' le' (nI ns') pl wa tx (nI L) ou os wd' ws' tw tg o1 s1 (nI s) 0 (-1) pS' pF' pT' pL' (nI fs.length) it' (nI (fs_it fs).length) wh' dn' wk me sh ot) rfl ?_
        refine aw_cV [0, 1, 2, 3, 4, 5, 6, 7, 8, 9, 10, 11, 12, 13, 14, 15, 16, 17, 18, 19, 20, 21, 22, 23, 24] (c_Mo_bad l lf' rt' nx' sz' hg' nu' hd' (nI n') nm' le' (nI ns') pl wa tx (nI L) ou os wd' ws' tw tg o1 s1 (nI s) (-1) pS' pF' pT' pL' (nI fs.length) it' (nI (fs_it fs).length) wh' dn' wk me sh ot 3 (nI L)) rfl cw_Mo_175 rfl rfl rfl rfl rfl rfl (Nat.le_refl _) (Nat.le_refl _) (fun r h' hp => ?_)
        obtain ⟨rfl, rfl⟩ := hp
        refine aw_go 5 101 [some (.ref 0), some (.int (nI w))] [.int 3] (moH lf' rt' nx' sz' hg' nu' hd' (nI n') nm' le' (nI ns') pl wa tx 0 ou os wd' ws' tw tg o1 s1 (nI s) 3 (nI L) pS' pF' pT' pL' (nI fs.length) it' (nI (fs_it fs).length) wh' dn' wk me sh ot) rfl ?_
        refine aw_if_ne rfl (fun h101 => ?_) (fun h101 => absurd h101 (by decide))
        refine aw_go 1 109 [some (.ref 0), some (.int (nI w))] [.int 0] (moH lf' rt' nx' sz' hg' nu' hd' (nI n') nm' le' (nI ns') pl wa tx 0 ou os wd' ws' tw tg o1 s1 (nI s) 3 (nI L) pS' pF' pT' pL' (nI fs.length) it' (nI (fs_it fs).length) wh' dn' wk me sh ot) rfl ?_
        exact aw_iret rfl (by decide) rfl (by have hsL : L ≤ s := le_n (by omega) (by omega) h51; have hkn : tk_kn T L s = 0 := (by rw [tk_kn_n (by rw [tk_kd_end hsL]; decide)]; exact tk_kd_end hsL); have hds : dT.isSome = false := rb_0 (by rw [← a4.2.2.2.2.2.2.1]; exact h80); have hfl : rd_fl 0 (tk_vl T L s 0) fs.length (ps_sg fs dT) (w + 1) = 3 := sg_end hds; have hfin : (ps_rd T L 1001 0 1 [] none) = (3, s, none) := (by rw [← a9, show 1002 - (w + 1) = (1001 - (w + 1)) + 1 by omega]; exact ps_rd_f a3 hkn hfl (by decide)); rw [hfin]; exact ⟨n', ns', lf', rt', nx', sz', hg', nu', hd', nm', le', wd', pS', pF', pT', pL', it', ws', _, _, _, wh', dn', t', i1, i2, i3, i4, i5, i6, fun z => absurd z (show ¬ (3 : Nat) = 0 by decide), rfl, by rw [show L = s by omega]; rfl⟩) rfl (Nat.le_refl _) (Nat.le_refl _) -- [.int 0] (moH lf' rt' nx' sz' hg' nu' hd' (nI n') nm' le' (nI ns') pl wa tx 0 ou os wd' ws' tw tg o1 s1 (nI s) 3 (nI L) pS' pF' pT' pL' (nI fs.length) it' (nI (fs_it fs).length) wh' dn' wk me sh ot)
    · have hsL : s < L := Nat.not_le.mp fun z => h51 (nI_le z (by omega))
      refine aw_go 1 57 [some (.ref 0), some (.int ((nI w) + 1))] [] (moH lf' rt' nx' sz' hg' nu' hd' (nI n') nm' le' (nI ns') pl wa tx (nI L) ou os wd' ws' tw tg o1 s1 (nI s) 0 (-1) pS' pF' pT' pL' (nI fs.length) it' (nI (fs_it fs).length) wh' dn' wk me sh ot) rfl ?_
      rw [← nI_succ]
      have hnzL := tx_nz_le T L
      have hnzs := tx_nz_mono T (show s ≤ L by omega)
      refine aw_go 2 59 [some (.ref 0), some (.int (nI (w + 1)))] [.int (nI (w + 1)), .ref 0] (moH lf' rt' nx' sz' hg' nu' hd' (nI n') nm' le' (nI ns') pl wa tx (nI L) ou os wd' ws' tw tg o1 s1 (nI s) 0 (-1) pS' pF' pT' pL' (nI fs.length) it' (nI (fs_it fs).length) wh' dn' wk me sh ot) rfl ?_
      refine aw_cV [0, 1, 2, 3, 4, 5, 6, 7, 8, 9, 10, 11, 12, 13, 14, 15, 16, 17, 18, 19, 20, 21, 22, 23, 24] (c_Mo_readWord l lf' rt' nx' sz' hg' nu' hd' nm' le' pl wa tx ou os wd' ws' tw tg o1 s1 (-1) pS' pF' pT' pL' it' wh' dn' wk me sh ot n' ns' t' i1 T L hT fs dT a4 s hsL (w + 1) (by omega) (by omega) (by omega) (by omega) ⟨by omega, by rw [i6 0 (by omega)]; exact h01.2.1, by rw [i6 1 (by omega)]; exact h01.2.2⟩) rfl cw_Mo_197 rfl rfl rfl rfl rfl rfl (Nat.le_refl _) (Nat.le_refl _) (fun r h' hp => ?_)
      rcases hp with ⟨rfl, ⟨hF, n2, ns2, lf2, rt2, nx2, sz2, hg2, nu2, hd2, nm2, le2, wd2, pS2, pF2, pT2, pL2, it2, ws2, atp2, op2, isz2, wh2, dn2, t2, m1, m2, m3, m4, m5, m6, ⟨x2, hx2, rfl⟩, rfl⟩ | ⟨hF, n2, ns2, lf2, rt2, nx2, sz2, hg2, nu2, hd2, nm2, le2, wd2, pS2, pF2, pT2, pL2, it2, ws2, atp2, op2, isz2, wh2, dn2, t2, m1, m2, m3, m4, m5, m6, m7, rfl⟩⟩
      · generalize hFe : rd_fl (tk_kn T L s) (tk_vl T L s 0) fs.length (ps_sg fs dT) (w + 1) = f2 at hF ⊢
        refine aw_go 0 62 [some (.ref 0), some (.int (nI (w + 1)))] [] (moH lf2 rt2 nx2 sz2 hg2 nu2 hd2 (nI n2) nm2 le2 (nI ns2) pl wa tx (nI L) ou os wd2 ws2 tw tg o1 s1 (nI x2) (nI f2) (nI s) pS2 pF2 pT2 pL2 op2 it2 isz2 wh2 dn2 wk me sh ot) rfl ?_
        skip
        refine aw_go 1 63 [some (.ref 0), some (.int (nI (w + 1)))] [.ref 0] (moH lf2 rt2 nx2 sz2 hg2 nu2 hd2 (nI n2) nm2 le2 (nI ns2) pl wa tx (nI L) ou os wd2 ws2 tw tg o1 s1 (nI x2) (nI f2) (nI s) pS2 pF2 pT2 pL2 op2 it2 isz2 wh2 dn2 wk me sh ot) rfl ?_
        refine aw_cV [0, 1, 2, 3, 4, 5, 6, 7, 8, 9, 10, 11, 12, 13, 14, 15, 16, 17, 18, 19, 20, 21, 22, 23, 24] (c_Mo_skip l lf2 rt2 nx2 sz2 hg2 nu2 hd2 (nI n2) nm2 le2 (nI ns2) pl wa tx ou os wd2 ws2 tw tg o1 s1 (nI f2) (nI s) pS2 pF2 pT2 pL2 op2 it2 isz2 wh2 dn2 wk me sh ot T L hT x2 hx2) rfl cw_Mo_194 rfl rfl rfl rfl rfl rfl (Nat.le_refl _) (Nat.le_refl _) (fun r h' hp => ?_)
        obtain ⟨rfl, rfl⟩ := hp
        refine aw_go 0 66 [some (.ref 0), some (.int (nI (w + 1)))] [] (moH lf2 rt2 nx2 sz2 hg2 nu2 hd2 (nI n2) nm2 le2 (nI ns2) pl wa tx (nI L) ou os wd2 ws2 tw tg o1 s1 (nI (tk_sk T (L - x2) x2 false)) (nI f2) (nI s) pS2 pF2 pT2 pL2 op2 it2 isz2 wh2 dn2 wk me sh ot) rfl ?_
        skip
        refine aw_go 1 36 [some (.ref 0), some (.int (nI (w + 1)))] [] (moH lf2 rt2 nx2 sz2 hg2 nu2 hd2 (nI n2) nm2 le2 (nI ns2) pl wa tx (nI L) ou os wd2 ws2 tw tg o1 s1 (nI (tk_sk T (L - x2) x2 false)) (nI f2) (nI s) pS2 pF2 pT2 pL2 op2 it2 isz2 wh2 dn2 wk me sh ot) rfl ?_
        -- LOOP 36: [some (.ref 0), some (.int (nI (w + 1)))] [] (moH lf2 rt2 nx2 sz2 hg2 nu2 hd2 (nI n2) nm2 le2 (nI ns2) pl wa tx (nI L) ou os wd2 ws2 tw tg o1 s1 (nI (tk_sk T (L - x2) x2 false)) (nI f2) (nI s) pS2 pF2 pT2 pL2 op2 it2 isz2 wh2 dn2 wk me sh ot)
        exact aw_eq (by simp only [nI_succ]) rfl rfl (ih (w + 1, _) ⟨f2, s, tk_sk T (L - x2) x2 false, n2, ns2, [], none, lf2, rt2, nx2, sz2, hg2, nu2, hd2, nm2, le2, wd2, pS2, pF2, pT2, pL2, it2, ws2, op2, isz2, wh2, dn2, nI s, t2, m1, by omega, mw_n hsL a5 a7 m3, by omega, mw_s hsL a8 m5, fun i hi => by rw [m6 i (by omega)]; exact i6 i hi, by have := (tk_sk_le T (L - x2) x2 false).2; omega, by show w + 1 ≤ 1001; omega, fun _ => ⟨by have := rd_fl_5 (tk_kn T L s) (tk_vl T L s 0) fs.length (ps_sg fs dT) (w + 1); omega, by rw [← a9, show 1002 - (w + 1) = (1001 - (w + 1)) + 1 by omega]; exact ps_rd_f a3 rfl hFe hF, rfl⟩, fun z => absurd z hF, rfl⟩ (by show 1002 - (w + 1) < 1002 - w; omega))
      · obtain ⟨f1, f2, f3, f4, f5⟩ := rd_fl0 hF
        have hk0 : tk_kn T L s ≠ 0 := fun z => by have := tk_kn0 z; omega
        have f5 := f5 hk0
        obtain ⟨z1, z2, z3, hx2⟩ := tk_nz hk0 f1
        refine aw_go 0 62 [some (.ref 0), some (.int (nI (w + 1)))] [] (moH lf2 rt2 nx2 sz2 hg2 nu2 hd2 (nI n2) nm2 le2 (nI ns2) pl wa tx (nI L) ou os wd2 ws2 tw tg o1 s1 (nI (tk_nx T L s)) 0 (-1) pS2 pF2 pT2 pL2 (nI (ps_step fs dT (tk_kn T L s) (tk_tr T L s)).1.length) it2 (nI (fs_it (ps_step fs dT (tk_kn T L s) (tk_tr T L s)).1).length) wh2 dn2 wk me sh ot) rfl ?_
        skip
        refine aw_go 1 63 [some (.ref 0), some (.int (nI (w + 1)))] [.ref 0] (moH lf2 rt2 nx2 sz2 hg2 nu2 hd2 (nI n2) nm2 le2 (nI ns2) pl wa tx (nI L) ou os wd2 ws2 tw tg o1 s1 (nI (tk_nx T L s)) 0 (-1) pS2 pF2 pT2 pL2 (nI (ps_step fs dT (tk_kn T L s) (tk_tr T L s)).1.length) it2 (nI (fs_it (ps_step fs dT (tk_kn T L s) (tk_tr T L s)).1).length) wh2 dn2 wk me sh ot) rfl ?_
        refine aw_cV [0, 1, 2, 3, 4, 5, 6, 7, 8, 9, 10, 11, 12, 13, 14, 15, 16, 17, 18, 19, 20, 21, 22, 23, 24] (c_Mo_skip l lf2 rt2 nx2 sz2 hg2 nu2 hd2 (nI n2) nm2 le2 (nI ns2) pl wa tx ou os wd2 ws2 tw tg o1 s1 0 (-1) pS2 pF2 pT2 pL2 (nI (ps_step fs dT (tk_kn T L s) (tk_tr T L s)).1.length) it2 (nI (fs_it (ps_step fs dT (tk_kn T L s) (tk_tr T L s)).1).length) wh2 dn2 wk me sh ot T L hT (tk_nx T L s) hx2) rfl cw_Mo_194 rfl rfl rfl rfl rfl rfl (Nat.le_refl _) (Nat.le_refl _) (fun r h' hp => ?_)
        obtain ⟨rfl, rfl⟩ := hp
        refine aw_go 0 66 [some (.ref 0), some (.int (nI (w + 1)))] [] (moH lf2 rt2 nx2 sz2 hg2 nu2 hd2 (nI n2) nm2 le2 (nI ns2) pl wa tx (nI L) ou os wd2 ws2 tw tg o1 s1 (nI (tk_sk T (L - (tk_nx T L s)) (tk_nx T L s) false)) 0 (-1) pS2 pF2 pT2 pL2 (nI (ps_step fs dT (tk_kn T L s) (tk_tr T L s)).1.length) it2 (nI (fs_it (ps_step fs dT (tk_kn T L s) (tk_tr T L s)).1).length) wh2 dn2 wk me sh ot) rfl ?_
        skip
        refine aw_go 1 36 [some (.ref 0), some (.int (nI (w + 1)))] [] (moH lf2 rt2 nx2 sz2 hg2 nu2 hd2 (nI n2) nm2 le2 (nI ns2) pl wa tx (nI L) ou os wd2 ws2 tw tg o1 s1 (nI (tk_sk T (L - (tk_nx T L s)) (tk_nx T L s) false)) 0 (-1) pS2 pF2 pT2 pL2 (nI (ps_step fs dT (tk_kn T L s) (tk_tr T L s)).1.length) it2 (nI (fs_it (ps_step fs dT (tk_kn T L s) (tk_tr T L s)).1).length) wh2 dn2 wk me sh ot) rfl ?_
        -- LOOP 36: [some (.ref 0), some (.int (nI (w + 1)))] [] (moH lf2 rt2 nx2 sz2 hg2 nu2 hd2 (nI n2) nm2 le2 (nI ns2) pl wa tx (nI L) ou os wd2 ws2 tw tg o1 s1 (nI (tk_sk T (L - (tk_nx T L s)) (tk_nx T L s) false)) 0 (-1) pS2 pF2 pT2 pL2 (nI (ps_step fs dT (tk_kn T L s) (tk_tr T L s)).1.length) it2 (nI (fs_it (ps_step fs dT (tk_kn T L s) (tk_tr T L s)).1).length) wh2 dn2 wk me sh ot)
        have hs2 := tk_sk_bd (T := T) hx2
        have z5 := tx_nz_s z2 z3
        have z6 := tx_nz_mono T hs2.1
        have hns2 := mw_a (ns := ns) hsL a8 m4 z5 z3 hx2 (b0 := false)
        exact aw_eq (by simp only [nI_succ]) rfl rfl (ih (w + 1, _) ⟨0, tk_nx T L s, tk_sk T (L - tk_nx T L s) (tk_nx T L s) false, n2, ns2, (ps_step fs dT (tk_kn T L s) (tk_tr T L s)).1, (ps_step fs dT (tk_kn T L s) (tk_tr T L s)).2, lf2, rt2, nx2, sz2, hg2, nu2, hd2, nm2, le2, wd2, pS2, pF2, pT2, pL2, it2, ws2, _, _, wh2, dn2, -1, t2, m1, by omega, by have := tx_nz_mono T hs2.2; omega, by omega, by have := tx_nz_mono T hs2.2; omega, fun i hi => by rw [m5 i (by omega)]; exact i6 i hi, hs2.2, by show w + 1 ≤ 1001; omega, fun z => absurd rfl z, fun _ => ⟨by show w + 1 ≤ 1000; omega, hx2, rfl, m6, by show _ ≤ n + 2 * (w + 1); omega, by show _ ≤ w + 1; have := ps_step_it fs dT (tk_kn T L s) (tk_tr T L s) a4.2.2.1; omega, by show w + 1 ≤ _; omega, hns2, by rw [← a9, show 1002 - (w + 1) = (1002 - (w + 1 + 1)) + 1 by omega, ps_rd_s a3 rfl hF rfl hk0], rfl⟩, rfl⟩ (by show 1002 - (w + 1) < 1002 - w; omega))
