/-! Teller: goOnInLists -/
theorem ob_rev {rs : Nat → Int32} {t : Nat → Tr} {n : Nat} {T : Tr} {r : List Tr} (h : ob_R rs t n 0 (T :: r).reverse) : (∃ i, i < n ∧ rs r.length = nI i ∧ t i = T) ∧ True ∧ ob_R rs t n 0 r.reverse := by
  rw [List.reverse_cons] at h
  have h2 := ob_R.mid h
  refine ⟨?_, trivial, h2.1⟩
  obtain ⟨i, h3, h4, h5⟩ := h2.2 0 (by simp)
  rw [List.length_reverse] at h4
  exact ⟨i, h3, h4, Option.some.inj h5⟩
theorem ob_rev2 {rs : Nat → Int32} {t : Nat → Tr} {n b : Nat} {T B : Tr} {r : List Tr} (h : ob_R rs t n 0 (T :: r).reverse) (hb : b < n) (hB : t b = B) : ob_R (upd rs r.length (nI b)) t n 0 (B :: r).reverse := by
  have h2 := (ob_rev h).2.2
  rw [List.reverse_cons]
  have h3 := ob_R.push h2 hb hB
  rw [List.length_reverse] at h3
  exact h3
set_option maxHeartbeats 2000000 in
set_option maxRecDepth 100000 in
theorem c_Te_goOnInLists (l : Launch) (cap n : Nat) (keys : Nat → Int64) (dp ln mk pt sl : Nat → Int32) (mark : Int32) (e0 : Nat) (t : Nat → Tr) (h : st_ok cap n e0 keys dp ln sl t) (sc n0 : Nat) (f0 : Nat → Int32) (acc : List Nat) (hsc : sc ≤ 2000) (hR : sh_R sc n0 f0 acc) (rs : Nat → Int32) (ss0 : List Tr) (hss : ss0.length ≤ 2000) (hob : ob_R rs t n 0 ss0.reverse) : Con l y_Te_goOnInLists M_Te_goOnInLists 6 133 [.ref 0, .ref 2] (teH (nI ss0.length) rs (nI n0) sc f0 cap keys dp ln mk pt sl (nI n) mark) 11 0 0 0 (fun r h' => (r = some (.int (-1)) ∧ ∃ (n2 : Nat) (f2 rs2 : Nat → Int32), sh_R sc n2 f2 (acc ++ tl_rs ss0) ∧ h' = teH 0 rs2 (nI n2) sc f2 cap keys dp ln mk pt sl (nI n) mark) ∨ (∃ (j : Nat) (ss2 : List Tr) (acc2 : List Nat) (n2 : Nat) (f2 rs2 : Nat → Int32), j < n ∧ ob_R rs2 t n 0 ss2.reverse ∧ ss2.length ≤ ss0.length ∧ acc.length ≤ acc2.length ∧ sh_R sc n2 f2 acc2 ∧ acc2 ++ (tlb (t j) false ++ tl_rs ss2) = acc ++ tl_rs ss0 ∧ r = some (.int (nI j)) ∧ h' = teH (nI ss2.length) rs2 (nI n2) sc f2 cap keys dp ln mk pt sl (nI n) mark)) := by
  have hcap := h.1.cap
  have hn := h.1.2.1
  refine Con.ent ok_Te_goOnInLists (by decide +kernel) rfl ?_
  intro pA eA sA mA argsA belowA methA cA GA μA
  refine aw_loop (σ := List Tr × (Nat → Int32) × Nat × (Nat → Int32) × List Nat) (fun y => ob_R y.2.1 t n 0 y.1.reverse ∧ y.1.length ≤ ss0.length ∧ sh_R sc y.2.2.1 y.2.2.2.1 y.2.2.2.2 ∧ y.2.2.2.2 ++ tl_rs y.1 = acc ++ tl_rs ss0 ∧ acc.length ≤ y.2.2.2.2.length) (fun y => y.1.length) (fun y => [some (.ref 0), some (.ref 2), none]) (fun _ => []) (fun y => teH (nI y.1.length) y.2.1 (nI y.2.2.1) sc y.2.2.2.1 cap keys dp ln mk pt sl (nI n) mark) ?_ (ss0, rs, n0, f0, acc) ⟨hob, Nat.le_refl _, hR, rfl, Nat.le_refl _⟩
  rintro ⟨ss, rs', n', f', acc'⟩ ⟨g1, g2, hR', g4, g5⟩ ih
  dsimp only at g1 g2 hR' g4 g5 ih ⊢
  refine aw_go 2 4 [some (.ref 0), some (.ref 2), none] [.int (nI ss.length)] (teH (nI ss.length) rs' (nI n') sc f' cap keys dp ln mk pt sl (nI n) mark) rfl ?_
  refine aw_if_le rfl (fun h4 => ?_) (fun h4 => ?_)
  · refine aw_go 1 112 [some (.ref 0), some (.ref 2), none] [.int (-1)] (teH (nI ss.length) rs' (nI n') sc f' cap keys dp ln mk pt sl (nI n) mark) rfl ?_
    exact aw_iret rfl rfl rfl (Or.inl ⟨rfl, n', f', rs', by have hs0 : ss = [] := List.length_eq_zero_iff.mp (by have h8 : ¬ 0 < ss.length := (fun z => nI_nle z (by omega) h4); omega); subst hs0; rw [← g4]; simp only [tl_rs, List.append_nil]; exact hR', by rw [show ss = [] from List.length_eq_zero_iff.mp (by have h8 : ¬ 0 < ss.length := (fun z => nI_nle z (by omega) h4); omega)]; rfl⟩) rfl (Nat.le_refl _) (Nat.le_refl _) -- [.int (-1)] (teH (nI ss.length) rs' (nI n') sc f' cap keys dp ln mk pt sl (nI n) mark)
  · obtain ⟨T, r0, rfl⟩ : ∃ T r, ss = T :: r := by
      cases ss with
      | nil => exact absurd (Int32.le_refl _) h4
      | cons T r => exact ⟨T, r, rfl⟩
    have hl0 : r0.length + 1 ≤ ss0.length := g2
    obtain ⟨i, hi, hri, hti⟩ := (ob_rev g1).1
    rw [show (T :: r0).length = r0.length + 1 from rfl]
    refine aw_go 6 17 [some (.ref 0), some (.ref 2), none] [.int ((nI (r0.length + 1)) - 1), .ref 1] (teH (nI (r0.length + 1)) rs' (nI n') sc f' cap keys dp ln mk pt sl (nI n) mark) rfl ?_
    rw [nI_pred]
    refine aw_ialdN rfl rfl ⟨by omega, by omega⟩ ?_
    rw [hri]
    refine aw_go 4 24 [some (.ref 0), some (.ref 2), some (.int (nI i))] [.int (nI i), .ref 4] (teH (nI (r0.length + 1)) rs' (nI n') sc f' cap keys dp ln mk pt sl (nI n) mark) rfl ?_
    refine aw_cV [4, 5, 6, 7, 8, 9, 10] (c_St_ip l cap n keys dp ln mk pt sl mark e0 t h i hi) rfl cw_Te_46 rfl rfl rfl rfl rfl rfl (Nat.le_refl _) (Nat.le_refl _) (fun r h' hp => ?_)
    obtain ⟨rfl, rfl⟩ := hp
    refine aw_go 0 27 [some (.ref 0), some (.ref 2), some (.int (nI i))] [.int (rb (tr_isp (t i)))] (teH (nI (r0.length + 1)) rs' (nI n') sc f' cap keys dp ln mk pt sl (nI n) mark) rfl ?_
    rcases hTi : t i with c | ⟨A, B⟩
    · rw [show rb (tr_isp (.var c)) = 0 from rfl]
      have hT0 : T = .var c := by rw [← hti, hTi]
      refine aw_if_eq rfl (fun h27 => ?_) (fun h27 => absurd h27 (by decide))
      refine aw_go 1 65 [some (.ref 0), some (.ref 2), some (.int (nI i))] [.int (nI i)] (teH (nI (r0.length + 1)) rs' (nI n') sc f' cap keys dp ln mk pt sl (nI n) mark) rfl ?_
      refine aw_if_eq rfl (fun h65 => ?_) (fun h65 => ?_)
      · refine aw_go 2 95 [some (.ref 0), some (.ref 2), some (.int (nI i))] [.int 41, .ref 2] (teH (nI (r0.length + 1)) rs' (nI n') sc f' cap keys dp ln mk pt sl (nI n) mark) rfl ?_
        refine aw_cV [2, 3] (c_Sh_ad l sc n' f' (acc') 41 (by omega) hR' (by omega)) rfl cw_Te_42 rfl rfl rfl rfl rfl rfl (Nat.le_refl _) (Nat.le_refl _) (fun r h' hp => ?_)
        obtain ⟨rfl, n95, f95, hR95, rfl⟩ := hp
        refine aw_go 6 108 [some (.ref 0), some (.ref 2), some (.int (nI i))] [] (teH ((nI (r0.length + 1)) - 1) rs' (nI n95) sc f95 cap keys dp ln mk pt sl (nI n) mark) rfl ?_
        rw [nI_pred]
        refine aw_go 1 0 [some (.ref 0), some (.ref 2), some (.int (nI i))] [] (teH (nI r0.length) rs' (nI n95) sc f95 cap keys dp ln mk pt sl (nI n) mark) rfl ?_
        -- LOOP 0: [some (.ref 0), some (.ref 2), some (.int (nI i))] [] (teH (nI r0.length) rs' (nI n95) sc f95 cap keys dp ln mk pt sl (nI n) mark)
        have hnil : (.var c : Tr) = tr_nil := (by rw [← hTi, nI_inj (b := 0) (by omega) (by omega) h65]; exact h.2.2.2.1)
        exact aw_mask [true, true, false] (aw_eq rfl rfl rfl (ih (r0, rs', n95, f95, acc' ++ [41]) ⟨(ob_rev g1).2.2, by show r0.length ≤ _; simp only [List.length_cons] at g2; omega, hR95, by show _ ++ tl_rs r0 = _; rw [← g4, hT0]; simp only [tl_rs]; rw [hnil, tlb_nil]; simp only [List.append_assoc, List.cons_append, List.nil_append], by show acc.length ≤ _; simp only [List.length_append]; omega⟩ (by show r0.length < r0.length + 1; omega)))
      · have hdot : c ≠ 2 * sy_nil + 1 := fun z => h65 (by rw [h.inj n i 0 (by omega) hi (by have := h.2.2.1; omega) (by rw [hTi, z, h.2.2.2.1]; rfl)]; rfl)
        refine aw_go 2 71 [some (.ref 0), some (.ref 2), some (.int (nI i))] [.int 32, .ref 2] (teH (nI (r0.length + 1)) rs' (nI n') sc f' cap keys dp ln mk pt sl (nI n) mark) rfl ?_
        refine aw_cV [2, 3] (c_Sh_ad l sc n' f' (acc') 32 (by omega) hR' (by omega)) rfl cw_Te_42 rfl rfl rfl rfl rfl rfl (Nat.le_refl _) (Nat.le_refl _) (fun r h' hp => ?_)
        obtain ⟨rfl, n71, f71, hR71, rfl⟩ := hp
        refine aw_go 2 77 [some (.ref 0), some (.ref 2), some (.int (nI i))] [.int 46, .ref 2] (teH (nI (r0.length + 1)) rs' (nI n71) sc f71 cap keys dp ln mk pt sl (nI n) mark) rfl ?_
        refine aw_cV [2, 3] (c_Sh_ad l sc n71 f71 (acc' ++ [32]) 46 (by omega) hR71 (by omega)) rfl cw_Te_42 rfl rfl rfl rfl rfl rfl (Nat.le_refl _) (Nat.le_refl _) (fun r h' hp => ?_)
        obtain ⟨rfl, n77, f77, hR77, rfl⟩ := hp
        refine aw_go 2 83 [some (.ref 0), some (.ref 2), some (.int (nI i))] [.int 32, .ref 2] (teH (nI (r0.length + 1)) rs' (nI n77) sc f77 cap keys dp ln mk pt sl (nI n) mark) rfl ?_
        refine aw_cV [2, 3] (c_Sh_ad l sc n77 f77 (acc' ++ [32] ++ [46]) 32 (by omega) hR77 (by omega)) rfl cw_Te_42 rfl rfl rfl rfl rfl rfl (Nat.le_refl _) (Nat.le_refl _) (fun r h' hp => ?_)
        obtain ⟨rfl, n83, f83, hR83, rfl⟩ := hp
        refine aw_go 3 89 [some (.ref 0), some (.ref 2), some (.int (nI i))] [.int (nI i), .ref 2, .ref 0] (teH (nI (r0.length + 1)) rs' (nI n83) sc f83 cap keys dp ln mk pt sl (nI n) mark) rfl ?_
        refine aw_cV [0, 1, 2, 3, 4, 5, 6, 7, 8, 9, 10] (c_Te_tellAtom l cap n keys dp ln mk pt sl mark e0 t h sc n83 f83 (acc' ++ [32] ++ [46] ++ [32]) hsc hR83 (nI (r0.length + 1)) rs' i hi c hTi) rfl cw_Te_56 rfl rfl rfl rfl rfl rfl (Nat.le_refl _) (Nat.le_refl _) (fun r h' hp => ?_)
        obtain ⟨rfl, n89, f89, hR89, rfl⟩ := hp
        refine aw_go 2 95 [some (.ref 0), some (.ref 2), some (.int (nI i))] [.int 41, .ref 2] (teH (nI (r0.length + 1)) rs' (nI n89) sc f89 cap keys dp ln mk pt sl (nI n) mark) rfl ?_
        refine aw_cV [2, 3] (c_Sh_ad l sc n89 f89 (acc' ++ [32] ++ [46] ++ [32] ++ tl_at c) 41 (by omega) hR89 (by omega)) rfl cw_Te_42 rfl rfl rfl rfl rfl rfl (Nat.le_refl _) (Nat.le_refl _) (fun r h' hp => ?_)
        obtain ⟨rfl, n95, f95, hR95, rfl⟩ := hp
        refine aw_go 6 108 [some (.ref 0), some (.ref 2), some (.int (nI i))] [] (teH ((nI (r0.length + 1)) - 1) rs' (nI n95) sc f95 cap keys dp ln mk pt sl (nI n) mark) rfl ?_
        rw [nI_pred]
        refine aw_go 1 0 [some (.ref 0), some (.ref 2), some (.int (nI i))] [] (teH (nI r0.length) rs' (nI n95) sc f95 cap keys dp ln mk pt sl (nI n) mark) rfl ?_
        -- LOOP 0: [some (.ref 0), some (.ref 2), some (.int (nI i))] [] (teH (nI r0.length) rs' (nI n95) sc f95 cap keys dp ln mk pt sl (nI n) mark)
        exact aw_mask [true, true, false] (aw_eq rfl rfl rfl (ih (r0, rs', n95, f95, acc' ++ [32] ++ [46] ++ [32] ++ tl_at c ++ [41]) ⟨(ob_rev g1).2.2, by show r0.length ≤ _; simp only [List.length_cons] at g2; omega, hR95, by show _ ++ tl_rs r0 = _; rw [← g4, hT0]; simp only [tl_rs]; rw [tlb_dot hdot]; simp only [List.append_assoc, List.cons_append, List.nil_append], by show acc.length ≤ _; simp only [List.length_append]; omega⟩ (by show r0.length < r0.length + 1; omega)))
    · rw [show rb (tr_isp (.op A B)) = 1 from rfl]
      have hT0 : T = .op A B := by rw [← hti, hTi]
      refine aw_if_eq rfl (fun h27 => absurd h27 (by decide)) (fun h27 => ?_)
      refine aw_go 2 33 [some (.ref 0), some (.ref 2), some (.int (nI i))] [.int 32, .ref 2] (teH (nI (r0.length + 1)) rs' (nI n') sc f' cap keys dp ln mk pt sl (nI n) mark) rfl ?_
      refine aw_cV [2, 3] (c_Sh_ad l sc n' f' (acc') 32 (by omega) hR' (by omega)) rfl cw_Te_42 rfl rfl rfl rfl rfl rfl (Nat.le_refl _) (Nat.le_refl _) (fun r h' hp => ?_)
      obtain ⟨rfl, n33, f33, hR33, rfl⟩ := hp
      refine aw_go 6 46 [some (.ref 0), some (.ref 2), some (.int (nI i))] [.int ((nI (r0.length + 1)) - 1), .ref 1] (teH (nI (r0.length + 1)) rs' (nI n33) sc f33 cap keys dp ln mk pt sl (nI n) mark) rfl ?_
      rw [nI_pred]
      refine aw_go 3 51 [some (.ref 0), some (.ref 2), some (.int (nI i))] [.int (nI i), .ref 4, .int (nI r0.length), .ref 1] (teH (nI (r0.length + 1)) rs' (nI n33) sc f33 cap keys dp ln mk pt sl (nI n) mark) rfl ?_
      refine aw_cV [4, 5, 6, 7, 8, 9, 10] (c_St_snd l cap n keys dp ln mk pt sl mark e0 t h i hi A B hTi) rfl cw_Te_50 rfl rfl rfl rfl rfl rfl (Nat.le_refl _) (Nat.le_refl _) (fun r h' hp => ?_)
      obtain ⟨b, hb, htb, rfl, rfl⟩ := hp
      refine aw_go 0 54 [some (.ref 0), some (.ref 2), some (.int (nI i))] [.int (nI b), .int (nI r0.length), .ref 1] (teH (nI (r0.length + 1)) rs' (nI n33) sc f33 cap keys dp ln mk pt sl (nI n) mark) rfl ?_
      refine aw_iastN rfl rfl ⟨by omega, by omega⟩ ?_
      refine aw_go 3 60 [some (.ref 0), some (.ref 2), some (.int (nI i))] [.int (nI i), .ref 4] (teH (nI (r0.length + 1)) (upd rs' r0.length (nI b)) (nI n33) sc f33 cap keys dp ln mk pt sl (nI n) mark) rfl ?_
      refine aw_cV [4, 5, 6, 7, 8, 9, 10] (c_St_fst l cap n keys dp ln mk pt sl mark e0 t h i hi A B hTi) rfl cw_Te_53 rfl rfl rfl rfl rfl rfl (Nat.le_refl _) (Nat.le_refl _) (fun r h' hp => ?_)
      obtain ⟨a, ha, hta, rfl, rfl⟩ := hp
      refine aw_go 0 63 [some (.ref 0), some (.ref 2), some (.int (nI i))] [.int (nI a)] (teH (nI (r0.length + 1)) (upd rs' r0.length (nI b)) (nI n33) sc f33 cap keys dp ln mk pt sl (nI n) mark) rfl ?_
      exact aw_iret rfl rfl rfl (Or.inr ⟨a, B :: r0, acc' ++ [32], n33, f33, upd rs' r0.length (nI b), by omega, ob_rev2 g1 (by omega) htb, by simp only [List.length_cons] at g2 ⊢; omega, by simp only [List.length_append]; omega, hR33, by rw [← g4, hT0, hta]; simp only [tl_rs]; rw [tlb_r]; simp only [List.append_assoc, List.cons_append, List.nil_append], rfl, rfl⟩) rfl (Nat.le_refl _) (Nat.le_refl _) -- [.int (nI a)] (teH (nI (r0.length + 1)) (upd rs' r0.length (nI b)) (nI n33) sc f33 cap keys dp ln mk pt sl (nI n) mark)
