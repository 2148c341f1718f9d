/-! Store: growTo -/
theorem gw_key {cap n : Nat} (keys : Nat → Int64) (hn : n ≤ cap) {j : Nat} (hj : j < n) : va_cpy keys (fun _ => 0) 0 0 cap j = keys j := by
  rw [pk_cpy_in (by omega) (by omega)]
  congr 1
  omega
theorem gw_0 {m e1 : Nat} {keys : Nat → Int64} (hm : 2 * m = 2 ^ e1 ∧ e1 ≤ 15) : st_tb m 0 e1 keys (ar_fl (2 * m) (fun _ => 0) (-1)) := by
  refine ⟨hm, Nat.zero_le _, fun s hs => Or.inl (by simp [ar_fl, hs]), fun j hj => absurd hj (by omega), fun s t j _ _ hj => absurd hj (by omega), fun i j hi => absurd hi (by omega)⟩
theorem gw_pr {m k n e1 q : Nat} {keys : Nat → Int64} {sl : Nat → Int32} {key : Int64} (h : st_tb m k e1 keys sl) (hn : n ≤ 16384) (hp : st_pr m n keys sl key q) : st_pr m k keys sl key q := by
  intro a ha
  have hc := h.cap
  have hk := h.2.1
  obtain ⟨j, h1, h2, h3⟩ := hp a ha
  rcases h.2.2.1 (hs m key a) (hs_lt hc.1) with g | ⟨i, g1, g2⟩
  · rw [g] at h2; exact absurd h2.symm (nI_m1 (by omega))
  · rw [g2] at h2
    have := nI_inj (by omega) (by omega) h2
    subst this
    exact ⟨i, g1, g2, h3⟩
theorem gw_em {cap n e0 m k e1 s0 : Nat} {keys : Nat → Int64} {sl slk : Nat → Int32} (h : st_tb cap n e0 keys sl) (hI : st_tb m k e1 (va_cpy keys (fun _ => 0) 0 0 cap) slk) (hn : n ≤ cap) (hk : k < n) (hv : slk s0 = -1 ∨ ∃ j, j < n ∧ slk s0 = nI j ∧ va_cpy keys (fun _ => 0) 0 0 cap j = va_cpy keys (fun _ => 0) 0 0 cap k) (hs0 : s0 < 2 * m := by exact hs_lt (by omega)) : slk s0 = -1 := by
  rcases hv with hv | ⟨j, h1, h2, h3⟩
  · exact hv
  · rw [gw_key keys hn h1, gw_key keys hn hk] at h3
    have := h.2.2.2.2.2 j k h1 hk h3
    subst this
    have hc := hI.cap
    have hc2 := h.cap
    have := hI.2.1
    rcases hI.2.2.1 s0 hs0 with g | ⟨i, g1, g2⟩
    · exact g
    · rw [g2] at h2
      have := nI_inj (by omega) (by omega) h2
      omega
theorem gw_ins {m k n e1 k0 : Nat} {keys : Nat → Int64} {sl : Nat → Int32} (h : st_tb m k e1 keys sl) (hn : n ≤ 16384 ∧ k < m) (hk0 : k0 < 2 * m) (hp : st_pr m n keys sl (keys k) k0) (he : sl (hs m (keys k) k0) = -1) : st_tb m (k + 1) e1 keys (upd sl (hs m (keys k) k0) (nI k)) := by
  have h1 := h.ins hk0 (gw_pr h hn.1 hp) he hn.2
  have h2 : vp_updL keys k (keys k) = keys := by
    funext j
    by_cases q : j = k
    · rw [q]; exact pk_uLs
    · exact pk_uLn q
  rw [h2] at h1
  exact h1
set_option maxHeartbeats 2000000 in
set_option maxRecDepth 100000 in
theorem c_St_growTo (l : Launch) (cap n : Nat) (keys : Nat → Int64) (dp ln mk pt sl : Nat → Int32) (mark : Int32) (e0 e1 m : Nat) (h : st_tb cap n e0 keys sl) (hm : cap < m ∧ 2 * m = 2 ^ e1 ∧ e1 ≤ 15) : Con l y_St_growTo M_St_growTo 2 82 [.ref 0, .int (nI m)] (stH cap keys dp ln mk pt sl (nI n) mark) 1 0 6 (7 * m) (fun r h' => r = none ∧ ∃ sl2, st_tb m n e1 (va_cpy keys (fun _ => 0) 0 0 cap) sl2 ∧ h' = (stH m (va_cpy keys (fun _ => 0) 0 0 cap) (va_cpy dp (fun _ => 0) 0 0 cap) (va_cpy ln (fun _ => 0) 0 0 cap) (va_cpy mk (fun _ => 0) 0 0 cap) (fun _ => 0) sl2 (nI n) mark)) := by
  refine Con.ent ok_St_growTo (by decide +kernel) rfl ?_
  intro pA eA sA mA argsA belowA methA cA GA μA
  have hc := h.cap
  have hcn := h.2.1
  have hm16 : 2 * m ≤ 2 ^ 15 := by rw [hm.2.1]; exact Nat.pow_le_pow_right (by omega) hm.2.2
  refine aw_go 4 6 [some (.ref 0), some (.int (nI m)), none, none] [.int (nI cap), .int (nI m)] (stH cap keys dp ln mk pt sl (nI n) mark) rfl ?_
  refine aw_cmp_lt rfl (fun h6 => absurd h6 (nI_nlt (by omega) (by omega))) (fun h6 => ?_)
  refine aw_go 2 13 [some (.ref 0), some (.int (nI m)), none, none] [.int 16384, .int (nI m)] (stH cap keys dp ln mk pt sl (nI n) mark) rfl ?_
  refine aw_cmp_le rfl (fun h13 => ?_) (fun h13 => absurd (nI_le (a := m) (b := 16384) (by omega) (by omega)) h13)
  refine aw_go 4 23 [some (.ref 0), some (.int (nI m)), none, none] [.int (nI m), .ref 1, .ref 0] (stH cap keys dp ln mk pt sl (nI n) mark) rfl ?_
  refine aw_cS [1] (c_Ja_copyOf_J l cap m keys hm.1 (by omega)) rfl cw_St_110 rfl rfl rfl rfl (by show _ ≤ 6; omega) (by show _ ≤ 7 * m; omega) (fun r h' hp => ?_)
  obtain ⟨rfl, rfl⟩ := hp
  refine aw_go 5 35 [some (.ref 0), some (.int (nI m)), none, none] [.int (nI m), .ref 2, .ref 0] [.inr (3, [.ref 7, .ref 2, .ref 3, .ref 4, .ref 5, .ref 6, .int (nI n), .int mark]), .inl (1, cap, .inr (.inl keys)), .inl (0, cap, .inl dp), .inl (0, cap, .inl ln), .inl (0, cap, .inl mk), .inl (0, cap, .inl pt), .inl (0, (2 * cap), .inl sl), .inl (1, m, .inr (.inl (va_cpy keys (fun _ => 0) 0 0 cap)))] rfl ?_
  refine aw_cS [2] (c_Ja_copyOf_I l cap m dp hm.1 (by omega)) rfl cw_St_114 rfl rfl rfl rfl (by show _ ≤ 6; omega) (by show _ ≤ 7 * m; omega) (fun r h' hp => ?_)
  obtain ⟨rfl, rfl⟩ := hp
  refine aw_go 5 47 [some (.ref 0), some (.int (nI m)), none, none] [.int (nI m), .ref 3, .ref 0] [.inr (3, [.ref 7, .ref 8, .ref 3, .ref 4, .ref 5, .ref 6, .int (nI n), .int mark]), .inl (1, cap, .inr (.inl keys)), .inl (0, cap, .inl dp), .inl (0, cap, .inl ln), .inl (0, cap, .inl mk), .inl (0, cap, .inl pt), .inl (0, (2 * cap), .inl sl), .inl (1, m, .inr (.inl (va_cpy keys (fun _ => 0) 0 0 cap))), .inl (0, m, .inl (va_cpy dp (fun _ => 0) 0 0 cap))] rfl ?_
  refine aw_cS [3] (c_Ja_copyOf_I l cap m ln hm.1 (by omega)) rfl cw_St_114 rfl rfl rfl rfl (by show _ ≤ 6; omega) (by show _ ≤ 7 * m; omega) (fun r h' hp => ?_)
  obtain ⟨rfl, rfl⟩ := hp
  refine aw_go 5 59 [some (.ref 0), some (.int (nI m)), none, none] [.int (nI m), .ref 4, .ref 0] [.inr (3, [.ref 7, .ref 8, .ref 9, .ref 4, .ref 5, .ref 6, .int (nI n), .int mark]), .inl (1, cap, .inr (.inl keys)), .inl (0, cap, .inl dp), .inl (0, cap, .inl ln), .inl (0, cap, .inl mk), .inl (0, cap, .inl pt), .inl (0, (2 * cap), .inl sl), .inl (1, m, .inr (.inl (va_cpy keys (fun _ => 0) 0 0 cap))), .inl (0, m, .inl (va_cpy dp (fun _ => 0) 0 0 cap)), .inl (0, m, .inl (va_cpy ln (fun _ => 0) 0 0 cap))] rfl ?_
  refine aw_cS [4] (c_Ja_copyOf_I l cap m mk hm.1 (by omega)) rfl cw_St_114 rfl rfl rfl rfl (by show _ ≤ 6; omega) (by show _ ≤ 7 * m; omega) (fun r h' hp => ?_)
  obtain ⟨rfl, rfl⟩ := hp
  refine aw_go 3 67 [some (.ref 0), some (.int (nI m)), none, none] [.int (nI m), .ref 0] [.inr (3, [.ref 7, .ref 8, .ref 9, .ref 10, .ref 5, .ref 6, .int (nI n), .int mark]), .inl (1, cap, .inr (.inl keys)), .inl (0, cap, .inl dp), .inl (0, cap, .inl ln), .inl (0, cap, .inl mk), .inl (0, cap, .inl pt), .inl (0, (2 * cap), .inl sl), .inl (1, m, .inr (.inl (va_cpy keys (fun _ => 0) 0 0 cap))), .inl (0, m, .inl (va_cpy dp (fun _ => 0) 0 0 cap)), .inl (0, m, .inl (va_cpy ln (fun _ => 0) 0 0 cap)), .inl (0, m, .inl (va_cpy mk (fun _ => 0) 0 0 cap))] rfl ?_
  refine aw_newa (N := m) 0 rfl (by decide) rfl (nI_pos (by omega)) (nI_clamp (by omega)) (by omega) (by show _ ≤ 6; omega) (by show _ ≤ 7 * m; omega) (Nat.le_of_ble_eq_true rfl) ?_
  refine aw_go 5 76 [some (.ref 0), some (.int (nI m)), none, none] [.int (2 * (nI m)), .ref 0] [.inr (3, [.ref 7, .ref 8, .ref 9, .ref 10, .ref 11, .ref 6, .int (nI n), .int mark]), .inl (1, cap, .inr (.inl keys)), .inl (0, cap, .inl dp), .inl (0, cap, .inl ln), .inl (0, cap, .inl mk), .inl (0, cap, .inl pt), .inl (0, (2 * cap), .inl sl), .inl (1, m, .inr (.inl (va_cpy keys (fun _ => 0) 0 0 cap))), .inl (0, m, .inl (va_cpy dp (fun _ => 0) 0 0 cap)), .inl (0, m, .inl (va_cpy ln (fun _ => 0) 0 0 cap)), .inl (0, m, .inl (va_cpy mk (fun _ => 0) 0 0 cap)), .inl (0, m, .inl (fun _ => 0))] rfl ?_
  rw [show (2 : Int32) * nI m = nI (2 * m) from pk_mul 2 m]
  refine aw_newa (N := 2 * m) 0 rfl (by decide) rfl (nI_pos (by omega)) (nI_clamp (by omega)) (by omega) (by show _ ≤ 6; omega) (by show _ ≤ 7 * m; omega) (Nat.le_of_ble_eq_true rfl) ?_
  refine aw_go 4 86 [some (.ref 0), some (.int (nI m)), none, none] [.int (-1), .ref 12] [.inr (3, [.ref 7, .ref 8, .ref 9, .ref 10, .ref 11, .ref 12, .int (nI n), .int mark]), .inl (1, cap, .inr (.inl keys)), .inl (0, cap, .inl dp), .inl (0, cap, .inl ln), .inl (0, cap, .inl mk), .inl (0, cap, .inl pt), .inl (0, (2 * cap), .inl sl), .inl (1, m, .inr (.inl (va_cpy keys (fun _ => 0) 0 0 cap))), .inl (0, m, .inl (va_cpy dp (fun _ => 0) 0 0 cap)), .inl (0, m, .inl (va_cpy ln (fun _ => 0) 0 0 cap)), .inl (0, m, .inl (va_cpy mk (fun _ => 0) 0 0 cap)), .inl (0, m, .inl (fun _ => 0)), .inl (0, 2 * m, .inl (fun _ => 0))] rfl ?_
  refine aw_cS [12] (c_Ja_fill l (2 * m) (fun _ => 0) (-1) (by omega)) rfl cw_St_31 rfl rfl rfl rfl (by show _ ≤ 6; omega) (by show _ ≤ 7 * m; omega) (fun r h' hp => ?_)
  obtain ⟨rfl, rfl⟩ := hp
  refine aw_go 2 91 [some (.ref 0), some (.int (nI m)), some (.int 0), none] [] [.inr (3, [.ref 7, .ref 8, .ref 9, .ref 10, .ref 11, .ref 12, .int (nI n), .int mark]), .inl (1, cap, .inr (.inl keys)), .inl (0, cap, .inl dp), .inl (0, cap, .inl ln), .inl (0, cap, .inl mk), .inl (0, cap, .inl pt), .inl (0, (2 * cap), .inl sl), .inl (1, m, .inr (.inl (va_cpy keys (fun _ => 0) 0 0 cap))), .inl (0, m, .inl (va_cpy dp (fun _ => 0) 0 0 cap)), .inl (0, m, .inl (va_cpy ln (fun _ => 0) 0 0 cap)), .inl (0, m, .inl (va_cpy mk (fun _ => 0) 0 0 cap)), .inl (0, m, .inl (fun _ => 0)), .inl (0, 2 * m, .inl (ar_fl (2 * m) (fun _ => 0) (-1)))] rfl ?_
  refine aw_ren [0, 7, 8, 9, 10, 11, 12] [some (.ref 0), some (.int (nI m)), some (.int (nI 0)), none] [] (stH m (va_cpy keys (fun _ => 0) 0 0 cap) (va_cpy dp (fun _ => 0) 0 0 cap) (va_cpy ln (fun _ => 0) 0 0 cap) (va_cpy mk (fun _ => 0) 0 0 cap) (fun _ => 0) (ar_fl (2 * m) (fun _ => 0) (-1)) (nI n) mark) rfl rfl rfl rfl ?_
  refine aw_loop (σ := Nat × (Nat → Int32)) (fun x => x.1 ≤ n ∧ st_tb m x.1 e1 (va_cpy keys (fun _ => 0) 0 0 cap) x.2) (fun x => n - x.1) (fun x => [some (.ref 0), some (.int (nI m)), some (.int (nI x.1)), none]) (fun _ => []) (fun x => (stH m (va_cpy keys (fun _ => 0) 0 0 cap) (va_cpy dp (fun _ => 0) 0 0 cap) (va_cpy ln (fun _ => 0) 0 0 cap) (va_cpy mk (fun _ => 0) 0 0 cap) (fun _ => 0) x.2 (nI n) mark)) ?_ (0, _) ⟨Nat.zero_le _, gw_0 hm.2⟩
  rintro ⟨k, slk⟩ hI ih
  dsimp only at hI ih ⊢
  refine aw_go 3 96 [some (.ref 0), some (.int (nI m)), some (.int (nI k)), none] [.int (nI n), .int (nI k)] (stH m (va_cpy keys (fun _ => 0) 0 0 cap) (va_cpy dp (fun _ => 0) 0 0 cap) (va_cpy ln (fun _ => 0) 0 0 cap) (va_cpy mk (fun _ => 0) 0 0 cap) (fun _ => 0) slk (nI n) mark) rfl ?_
  refine aw_cmp_ge rfl (fun h96 => ?_) (fun h96 => ?_)
  · exact aw_vret rfl rfl ⟨rfl, slk, by rw [show k = n from (by have h9 : ¬ k < n := (fun q => nI_ge q (by omega) h96); have := hI.1; omega)] at hI; exact hI.2, rfl⟩ rfl (by show _ ≤ 6; omega) (by show _ ≤ 7 * m; omega) -- [] (stH m (va_cpy keys (fun _ => 0) 0 0 cap) (va_cpy dp (fun _ => 0) 0 0 cap) (va_cpy ln (fun _ => 0) 0 0 cap) (va_cpy mk (fun _ => 0) 0 0 cap) (fun _ => 0) slk (nI n) mark)
  · have hk : k < n := Nat.not_le.mp fun q => h96 (nI_le q (by omega))
    refine aw_go 4 105 [some (.ref 0), some (.int (nI m)), some (.int (nI k)), none] [.int (nI k), .ref 1, .ref 0] (stH m (va_cpy keys (fun _ => 0) 0 0 cap) (va_cpy dp (fun _ => 0) 0 0 cap) (va_cpy ln (fun _ => 0) 0 0 cap) (va_cpy mk (fun _ => 0) 0 0 cap) (fun _ => 0) slk (nI n) mark) rfl ?_
    refine aw_laldN rfl rfl ⟨by omega, by omega⟩ ?_
    refine aw_cV [0, 1, 2, 3, 4, 5, 6] (c_St_slotOf l m n (va_cpy keys (fun _ => 0) 0 0 cap) (va_cpy dp (fun _ => 0) 0 0 cap) (va_cpy ln (fun _ => 0) 0 0 cap) (va_cpy mk (fun _ => 0) 0 0 cap) (fun _ => 0) slk mark ((va_cpy keys (fun _ => 0) 0 0 cap) k) e1 hm.2 (by omega) (fun s hs1 => (hI.2.2.2.1 s hs1).imp id (fun ⟨j, h1, h2⟩ => ⟨j, by omega, h2⟩))) rfl cw_St_105 rfl rfl rfl rfl rfl rfl (by show _ ≤ 6; omega) (by show _ ≤ 7 * m; omega) (fun r h' hp => ?_)
    obtain ⟨hs0, rfl⟩ := hp
    rcases hs0 with ⟨k0, hk0, hp0, rfl, hv0⟩ | ⟨hp0, -⟩
    rotate_left
    · exact (hI.2.room (gw_pr hI.2 (by omega) hp0)).elim
    have hv1 := gw_em h hI.2 hcn hk hv0
    refine aw_go 3 112 [some (.ref 0), some (.int (nI m)), some (.int (nI k)), some (.int (nI (hs m ((va_cpy keys (fun _ => 0) 0 0 cap) k) k0)))] [.int (-1), .int (nI (hs m ((va_cpy keys (fun _ => 0) 0 0 cap) k) k0))] (stH m (va_cpy keys (fun _ => 0) 0 0 cap) (va_cpy dp (fun _ => 0) 0 0 cap) (va_cpy ln (fun _ => 0) 0 0 cap) (va_cpy mk (fun _ => 0) 0 0 cap) (fun _ => 0) slk (nI n) mark) rfl ?_
    refine aw_cmp_eq rfl (fun h112 => absurd h112 (nI_m1 (by have := hs_lt (k := k0) (key := (va_cpy keys (fun _ => 0) 0 0 cap) k) (show 0 < m by omega); omega))) (fun h112 => ?_)
    refine aw_go 4 121 [some (.ref 0), some (.int (nI m)), some (.int (nI k)), some (.int (nI (hs m ((va_cpy keys (fun _ => 0) 0 0 cap) k) k0)))] [.int (nI k), .int (nI (hs m ((va_cpy keys (fun _ => 0) 0 0 cap) k) k0)), .ref 6] (stH m (va_cpy keys (fun _ => 0) 0 0 cap) (va_cpy dp (fun _ => 0) 0 0 cap) (va_cpy ln (fun _ => 0) 0 0 cap) (va_cpy mk (fun _ => 0) 0 0 cap) (fun _ => 0) slk (nI n) mark) rfl ?_
    refine aw_iastN rfl rfl ⟨hs_lt (by omega), by omega⟩ ?_
    refine aw_go 2 91 [some (.ref 0), some (.int (nI m)), some (.int ((nI k) + 1)), some (.int (nI (hs m ((va_cpy keys (fun _ => 0) 0 0 cap) k) k0)))] [] (stH m (va_cpy keys (fun _ => 0) 0 0 cap) (va_cpy dp (fun _ => 0) 0 0 cap) (va_cpy ln (fun _ => 0) 0 0 cap) (va_cpy mk (fun _ => 0) 0 0 cap) (fun _ => 0) (upd slk (hs m ((va_cpy keys (fun _ => 0) 0 0 cap) k) k0) (nI k)) (nI n) mark) rfl ?_
    -- LOOP 91: [some (.ref 0), some (.int (nI m)), some (.int ((nI k) + 1)), some (.int (nI (hs m ((va_cpy keys (fun _ => 0) 0 0 cap) k) k0)))] [] (stH m (va_cpy keys (fun _ => 0) 0 0 cap) (va_cpy dp (fun _ => 0) 0 0 cap) (va_cpy ln (fun _ => 0) 0 0 cap) (va_cpy mk (fun _ => 0) 0 0 cap) (fun _ => 0) (upd slk (hs m ((va_cpy keys (fun _ => 0) 0 0 cap) k) k0) (nI k)) (nI n) mark)
    exact aw_mask [true, true, true, false] (aw_eq (by simp only [nI_succ]; rfl) rfl rfl (ih (k + 1, upd slk (hs m ((va_cpy keys (fun _ => 0) 0 0 cap) k) k0) (nI k)) ⟨by omega, gw_ins hI.2 (by omega) hk0 hp0 hv1⟩ (by show n - (k + 1) < n - k; omega)))
