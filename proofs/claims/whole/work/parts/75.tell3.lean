/-! Teller: tellFront, tellOn -/
theorem sh_R.full {sc n : Nat} {f : Nat → Int32} {acc W : List Nat} (h : sh_R sc n f acc) (hf : sc ≤ acc.length) (he : ∃ e, acc ++ e = W) : sh_R sc n f W := by
  obtain ⟨e, rfl⟩ := he
  obtain ⟨h1, h2⟩ := h
  refine ⟨by rw [List.length_append]; omega, fun j hj => ?_⟩
  rw [getD_appN (by omega)]
  exact h2 j hj
theorem tlb_pos : ∀ (T : Tr) (b : Bool), 1 ≤ (tlb T b).length := by
  intro T b
  cases T with
  | var c =>
    cases b with
    | false => rw [tlb_a]; exact tl_at_pos c
    | true =>
      simp only [tlb]
      split
      · exact Nat.le_refl _
      · simp
  | op x y =>
    cases b with
    | true => rw [tlb_r]; simp
    | false =>
      cases hq : tr_q (.op x y) with
      | none => rw [tlb_p hq]; simp
      | some z => rw [tlb_q hq]; simp
theorem c_St_qn (l : Launch) (cap n : Nat) (keys : Nat → Int64) (dp ln mk pt sl : Nat → Int32) (mark : Int32) (e0 : Nat) (t : Nat → Tr) (h : st_ok cap n e0 keys dp ln sl t) (i : Nat) (hi : i < n) (hq : tr_q (t i) = none) : Con l y_St_quotedIn M_St_quotedIn 3 63 [.ref 0, .int (nI i)] (stH cap keys dp ln mk pt sl (nI n) mark) 7 0 0 0 (fun r h' => r = some (.int (-1)) ∧ h' = stH cap keys dp ln mk pt sl (nI n) mark) := by
  refine (c_St_quotedIn l cap n keys dp ln mk pt sl mark e0 t h i hi).mono ?_
  rintro r h' ⟨⟨-, rfl⟩ | ⟨x, -, hx, -⟩, rfl⟩
  · exact ⟨rfl, rfl⟩
  · rw [hq] at hx; cases hx
theorem c_St_qs (l : Launch) (cap n : Nat) (keys : Nat → Int64) (dp ln mk pt sl : Nat → Int32) (mark : Int32) (e0 : Nat) (t : Nat → Tr) (h : st_ok cap n e0 keys dp ln sl t) (i : Nat) (hi : i < n) (X : Tr) (hq : tr_q (t i) = some X) : Con l y_St_quotedIn M_St_quotedIn 3 63 [.ref 0, .int (nI i)] (stH cap keys dp ln mk pt sl (nI n) mark) 7 0 0 0 (fun r h' => ∃ x, x < i ∧ t x = X ∧ r = some (.int (nI x)) ∧ h' = stH cap keys dp ln mk pt sl (nI n) mark) := by
  refine (c_St_quotedIn l cap n keys dp ln mk pt sl mark e0 t h i hi).mono ?_
  rintro r h' ⟨⟨hx, -⟩ | ⟨x, h1, hx, rfl⟩, rfl⟩
  · rw [hq] at hx; cases hx
  · rw [hq] at hx; cases hx; exact ⟨x, h1, rfl, rfl, rfl⟩
set_option maxHeartbeats 2000000 in
set_option maxRecDepth 100000 in
theorem c_Te_tellFront_q (l : Launch) (cap n : Nat) (keys : Nat → Int64) (dp ln mk pt sl : Nat → Int32) (mark : Int32) (e0 : Nat) (t : Nat → Tr) (h : st_ok cap n e0 keys dp ln sl t) (sc n0 : Nat) (f0 : Nat → Int32) (acc : List Nat) (hsc : sc ≤ 2000) (hR : sh_R sc n0 f0 acc) (rs : Nat → Int32) (ss : List Tr) (hob : ob_R rs t n 0 ss.reverse) (hss : ss.length ≤ acc.length) (hfull : acc.length < sc) (i : Nat) (hi : i < n) (A B X : Tr) (hT : t i = .op A B) (hq : tr_q (t i) = some X) : Con l y_Te_tellFront M_Te_tellFront 7 155 [.ref 0, .ref 2, .int (nI i)] (teH (nI ss.length) rs (nI n0) sc f0 cap keys dp ln mk pt sl (nI n) mark) 11 0 0 0 (fun r h' => (r = some (.int (-1)) ∧ ∃ (n2 : Nat) (f2 rs2 : Nat → Int32), sh_R sc n2 f2 (acc ++ (tlb (t i) false ++ tl_rs ss)) ∧ h' = teH 0 rs2 (nI n2) sc f2 cap keys dp ln mk pt sl (nI n) mark) ∨ (∃ (j : Nat) (ss2 : List Tr) (acc2 : List Nat) (n2 : Nat) (f2 rs2 : Nat → Int32), j < n ∧ ob_R rs2 t n 0 ss2.reverse ∧ ss2.length ≤ acc2.length ∧ acc.length < acc2.length ∧ sh_R sc n2 f2 acc2 ∧ acc2 ++ (tlb (t j) false ++ tl_rs ss2) = acc ++ (tlb (t i) false ++ tl_rs ss) ∧ r = some (.int (nI j)) ∧ h' = teH (nI ss2.length) rs2 (nI n2) sc f2 cap keys dp ln mk pt sl (nI n) mark)) := by
  have hcap := h.1.cap
  have hn := h.1.2.1
  refine Con.ent ok_Te_tellFront (by decide +kernel) rfl ?_
  intro pA eA sA mA argsA belowA methA cA GA μA
  refine aw_go 3 5 [some (.ref 0), some (.ref 2), some (.int (nI i)), none] [.int (nI i), .ref 4] (teH (nI ss.length) rs (nI n0) sc f0 cap keys dp ln mk pt sl (nI n) mark) rfl ?_
  refine aw_cV [4, 5, 6, 7, 8, 9, 10] (c_St_qs l cap n keys dp ln mk pt sl mark e0 t h i hi X hq) rfl cw_Te_36 rfl rfl rfl rfl rfl rfl (Nat.le_refl _) (Nat.le_refl _) (fun r h' hp => ?_)
  obtain ⟨x, hxi, hx, rfl, rfl⟩ := hp
  refine aw_go 3 11 [some (.ref 0), some (.ref 2), some (.int (nI i)), some (.int (nI x))] [.int (-1), .int (nI x)] (teH (nI ss.length) rs (nI n0) sc f0 cap keys dp ln mk pt sl (nI n) mark) rfl ?_
  refine aw_cmp_eq rfl (fun h11 => absurd h11 (nI_m1 (by omega))) (fun h11 => ?_)
  refine aw_go 2 17 [some (.ref 0), some (.ref 2), some (.int (nI i)), some (.int (nI x))] [.int 39, .ref 2] (teH (nI ss.length) rs (nI n0) sc f0 cap keys dp ln mk pt sl (nI n) mark) rfl ?_
  refine aw_cV [2, 3] (c_Sh_ad l sc n0 f0 (acc) 39 (by omega) hR (by omega)) rfl cw_Te_42 rfl rfl rfl rfl rfl rfl (Nat.le_refl _) (Nat.le_refl _) (fun r h' hp => ?_)
  obtain ⟨rfl, n17, f17, hR17, rfl⟩ := hp
  refine aw_go 1 21 [some (.ref 0), some (.ref 2), some (.int (nI i)), some (.int (nI x))] [.int (nI x)] (teH (nI ss.length) rs (nI n17) sc f17 cap keys dp ln mk pt sl (nI n) mark) rfl ?_
  exact aw_iret rfl rfl rfl (Or.inr ⟨x, ss, acc ++ [39], n17, f17, rs, by omega, hob, by simp only [List.length_append]; omega, by simp only [List.length_append, List.length_singleton]; omega, hR17, by rw [hT, tlb_q (by rw [← hT]; exact hq), hx]; simp only [List.append_assoc, List.cons_append, List.nil_append], rfl, rfl⟩) rfl (Nat.le_refl _) (Nat.le_refl _) -- [.int (nI x)] (teH (nI ss.length) rs (nI n17) sc f17 cap keys dp ln mk pt sl (nI n) mark)
set_option maxHeartbeats 2000000 in
set_option maxRecDepth 100000 in
theorem c_Te_tellFront_p (l : Launch) (cap n : Nat) (keys : Nat → Int64) (dp ln mk pt sl : Nat → Int32) (mark : Int32) (e0 : Nat) (t : Nat → Tr) (h : st_ok cap n e0 keys dp ln sl t) (sc n0 : Nat) (f0 : Nat → Int32) (acc : List Nat) (hsc : sc ≤ 2000) (hR : sh_R sc n0 f0 acc) (rs : Nat → Int32) (ss : List Tr) (hob : ob_R rs t n 0 ss.reverse) (hss : ss.length ≤ acc.length) (hfull : acc.length < sc) (i : Nat) (hi : i < n) (A B : Tr) (hT : t i = .op A B) (hq : tr_q (t i) = none) : Con l y_Te_tellFront M_Te_tellFront 7 155 [.ref 0, .ref 2, .int (nI i)] (teH (nI ss.length) rs (nI n0) sc f0 cap keys dp ln mk pt sl (nI n) mark) 11 0 0 0 (fun r h' => (r = some (.int (-1)) ∧ ∃ (n2 : Nat) (f2 rs2 : Nat → Int32), sh_R sc n2 f2 (acc ++ (tlb (t i) false ++ tl_rs ss)) ∧ h' = teH 0 rs2 (nI n2) sc f2 cap keys dp ln mk pt sl (nI n) mark) ∨ (∃ (j : Nat) (ss2 : List Tr) (acc2 : List Nat) (n2 : Nat) (f2 rs2 : Nat → Int32), j < n ∧ ob_R rs2 t n 0 ss2.reverse ∧ ss2.length ≤ acc2.length ∧ acc.length < acc2.length ∧ sh_R sc n2 f2 acc2 ∧ acc2 ++ (tlb (t j) false ++ tl_rs ss2) = acc ++ (tlb (t i) false ++ tl_rs ss) ∧ r = some (.int (nI j)) ∧ h' = teH (nI ss2.length) rs2 (nI n2) sc f2 cap keys dp ln mk pt sl (nI n) mark)) := by
  have hcap := h.1.cap
  have hn := h.1.2.1
  refine Con.ent ok_Te_tellFront (by decide +kernel) rfl ?_
  intro pA eA sA mA argsA belowA methA cA GA μA
  refine aw_go 3 5 [some (.ref 0), some (.ref 2), some (.int (nI i)), none] [.int (nI i), .ref 4] (teH (nI ss.length) rs (nI n0) sc f0 cap keys dp ln mk pt sl (nI n) mark) rfl ?_
  refine aw_cV [4, 5, 6, 7, 8, 9, 10] (c_St_qn l cap n keys dp ln mk pt sl mark e0 t h i hi hq) rfl cw_Te_36 rfl rfl rfl rfl rfl rfl (Nat.le_refl _) (Nat.le_refl _) (fun r h' hp => ?_)
  obtain ⟨rfl, rfl⟩ := hp
  refine aw_go 3 11 [some (.ref 0), some (.ref 2), some (.int (nI i)), some (.int (-1))] [.int (-1), .int (-1)] (teH (nI ss.length) rs (nI n0) sc f0 cap keys dp ln mk pt sl (nI n) mark) rfl ?_
  refine aw_cmp_eq rfl (fun h11 => ?_) (fun h11 => absurd h11 (by decide))
  refine aw_go 3 27 [some (.ref 0), some (.ref 2), some (.int (nI i)), some (.int (-1))] [.int (nI i), .ref 4] (teH (nI ss.length) rs (nI n0) sc f0 cap keys dp ln mk pt sl (nI n) mark) rfl ?_
  refine aw_cV [4, 5, 6, 7, 8, 9, 10] (c_St_ip l cap n keys dp ln mk pt sl mark e0 t h i hi) rfl cw_Te_46 rfl rfl rfl rfl rfl rfl (Nat.le_refl _) (Nat.le_refl _) (fun r h' hp => ?_)
  obtain ⟨rfl, rfl⟩ := hp
  rw [hT, show rb (tr_isp (.op A B)) = 1 from rfl]
  refine aw_go 0 30 [some (.ref 0), some (.ref 2), some (.int (nI i)), some (.int (-1))] [.int 1] (teH (nI ss.length) rs (nI n0) sc f0 cap keys dp ln mk pt sl (nI n) mark) rfl ?_
  refine aw_if_eq rfl (fun h30 => absurd h30 (by decide)) (fun h30 => ?_)
  refine aw_go 5 42 [some (.ref 0), some (.ref 2), some (.int (nI i)), some (.int (-1))] [.int (nI 2000), .int (nI ss.length)] (teH (nI ss.length) rs (nI n0) sc f0 cap keys dp ln mk pt sl (nI n) mark) rfl ?_
  refine aw_cmp_ge rfl (fun h42 => absurd h42 (nI_ge (b := 2000) (by omega) (by omega))) (fun h42 => ?_)
  refine aw_go 2 48 [some (.ref 0), some (.ref 2), some (.int (nI i)), some (.int (-1))] [.int 40, .ref 2] (teH (nI ss.length) rs (nI n0) sc f0 cap keys dp ln mk pt sl (nI n) mark) rfl ?_
  refine aw_cV [2, 3] (c_Sh_ad l sc n0 f0 (acc) 40 (by omega) hR (by omega)) rfl cw_Te_42 rfl rfl rfl rfl rfl rfl (Nat.le_refl _) (Nat.le_refl _) (fun r h' hp => ?_)
  obtain ⟨rfl, n48, f48, hR48, rfl⟩ := hp
  refine aw_go 7 64 [some (.ref 0), some (.ref 2), some (.int (nI i)), some (.int (-1))] [.int (nI i), .ref 4, .int (nI ss.length), .ref 1] (teH (nI ss.length) rs (nI n48) sc f48 cap keys dp ln mk pt sl (nI n) mark) rfl ?_
  refine aw_cV [4, 5, 6, 7, 8, 9, 10] (c_St_snd l cap n keys dp ln mk pt sl mark e0 t h i hi A B hT) rfl cw_Te_50 rfl rfl rfl rfl rfl rfl (Nat.le_refl _) (Nat.le_refl _) (fun r h' hp => ?_)
  obtain ⟨b, hb, htb, rfl, rfl⟩ := hp
  refine aw_go 0 67 [some (.ref 0), some (.ref 2), some (.int (nI i)), some (.int (-1))] [.int (nI b), .int (nI ss.length), .ref 1] (teH (nI ss.length) rs (nI n48) sc f48 cap keys dp ln mk pt sl (nI n) mark) rfl ?_
  refine aw_iastN rfl rfl ⟨by omega, by omega⟩ ?_
  refine aw_go 9 83 [some (.ref 0), some (.ref 2), some (.int (nI i)), some (.int (-1))] [.int (nI i), .ref 4] (teH ((nI ss.length) + 1) (upd rs ss.length (nI b)) (nI n48) sc f48 cap keys dp ln mk pt sl (nI n) mark) rfl ?_
  refine aw_cV [4, 5, 6, 7, 8, 9, 10] (c_St_fst l cap n keys dp ln mk pt sl mark e0 t h i hi A B hT) rfl cw_Te_53 rfl rfl rfl rfl rfl rfl (Nat.le_refl _) (Nat.le_refl _) (fun r h' hp => ?_)
  obtain ⟨a, ha, hta, rfl, rfl⟩ := hp
  refine aw_go 0 86 [some (.ref 0), some (.ref 2), some (.int (nI i)), some (.int (-1))] [.int (nI a)] (teH ((nI ss.length) + 1) (upd rs ss.length (nI b)) (nI n48) sc f48 cap keys dp ln mk pt sl (nI n) mark) rfl ?_
  exact aw_iret rfl rfl rfl (Or.inr ⟨a, B :: ss, acc ++ [40], n48, f48, upd rs ss.length (nI b), by omega, by rw [List.reverse_cons]; have h3 := ob_R.push hob (j := b) (by omega) htb; rw [List.length_reverse] at h3; exact h3, by simp only [List.length_append, List.length_cons]; omega, by simp only [List.length_append, List.length_singleton]; omega, hR48, by rw [tlb_p (by rw [← hT]; exact hq), hta]; simp only [tl_rs, List.append_assoc, List.cons_append, List.nil_append], rfl, by rw [← nI_succ]; rfl⟩) rfl (Nat.le_refl _) (Nat.le_refl _) -- [.int (nI a)] (teH ((nI ss.length) + 1) (upd rs ss.length (nI b)) (nI n48) sc f48 cap keys dp ln mk pt sl (nI n) mark)
set_option maxHeartbeats 2000000 in
set_option maxRecDepth 100000 in
theorem c_Te_tellFront_a (l : Launch) (cap n : Nat) (keys : Nat → Int64) (dp ln mk pt sl : Nat → Int32) (mark : Int32) (e0 : Nat) (t : Nat → Tr) (h : st_ok cap n e0 keys dp ln sl t) (sc n0 : Nat) (f0 : Nat → Int32) (acc : List Nat) (hsc : sc ≤ 2000) (hR : sh_R sc n0 f0 acc) (rs : Nat → Int32) (ss : List Tr) (hob : ob_R rs t n 0 ss.reverse) (hss : ss.length ≤ acc.length) (hfull : acc.length < sc) (i : Nat) (hi : i < n) (c : Nat) (hT : t i = .var c) : Con l y_Te_tellFront M_Te_tellFront 7 155 [.ref 0, .ref 2, .int (nI i)] (teH (nI ss.length) rs (nI n0) sc f0 cap keys dp ln mk pt sl (nI n) mark) 11 0 0 0 (fun r h' => (r = some (.int (-1)) ∧ ∃ (n2 : Nat) (f2 rs2 : Nat → Int32), sh_R sc n2 f2 (acc ++ (tlb (t i) false ++ tl_rs ss)) ∧ h' = teH 0 rs2 (nI n2) sc f2 cap keys dp ln mk pt sl (nI n) mark) ∨ (∃ (j : Nat) (ss2 : List Tr) (acc2 : List Nat) (n2 : Nat) (f2 rs2 : Nat → Int32), j < n ∧ ob_R rs2 t n 0 ss2.reverse ∧ ss2.length ≤ acc2.length ∧ acc.length < acc2.length ∧ sh_R sc n2 f2 acc2 ∧ acc2 ++ (tlb (t j) false ++ tl_rs ss2) = acc ++ (tlb (t i) false ++ tl_rs ss) ∧ r = some (.int (nI j)) ∧ h' = teH (nI ss2.length) rs2 (nI n2) sc f2 cap keys dp ln mk pt sl (nI n) mark)) := by
  have hcap := h.1.cap
  have hn := h.1.2.1
  have hq : tr_q (t i) = none := by rw [hT]; rfl
  refine Con.ent ok_Te_tellFront (by decide +kernel) rfl ?_
  intro pA eA sA mA argsA belowA methA cA GA μA
  refine aw_go 3 5 [some (.ref 0), some (.ref 2), some (.int (nI i)), none] [.int (nI i), .ref 4] (teH (nI ss.length) rs (nI n0) sc f0 cap keys dp ln mk pt sl (nI n) mark) rfl ?_
  refine aw_cV [4, 5, 6, 7, 8, 9, 10] (c_St_qn l cap n keys dp ln mk pt sl mark e0 t h i hi hq) rfl cw_Te_36 rfl rfl rfl rfl rfl rfl (Nat.le_refl _) (Nat.le_refl _) (fun r h' hp => ?_)
  obtain ⟨rfl, rfl⟩ := hp
  refine aw_go 3 11 [some (.ref 0), some (.ref 2), some (.int (nI i)), some (.int (-1))] [.int (-1), .int (-1)] (teH (nI ss.length) rs (nI n0) sc f0 cap keys dp ln mk pt sl (nI n) mark) rfl ?_
  refine aw_cmp_eq rfl (fun h11 => ?_) (fun h11 => absurd h11 (by decide))
  refine aw_go 3 27 [some (.ref 0), some (.ref 2), some (.int (nI i)), some (.int (-1))] [.int (nI i), .ref 4] (teH (nI ss.length) rs (nI n0) sc f0 cap keys dp ln mk pt sl (nI n) mark) rfl ?_
  refine aw_cV [4, 5, 6, 7, 8, 9, 10] (c_St_ip l cap n keys dp ln mk pt sl mark e0 t h i hi) rfl cw_Te_46 rfl rfl rfl rfl rfl rfl (Nat.le_refl _) (Nat.le_refl _) (fun r h' hp => ?_)
  obtain ⟨rfl, rfl⟩ := hp
  rw [hT, show rb (tr_isp (.var c)) = 0 from rfl]
  refine aw_go 0 30 [some (.ref 0), some (.ref 2), some (.int (nI i)), some (.int (-1))] [.int 0] (teH (nI ss.length) rs (nI n0) sc f0 cap keys dp ln mk pt sl (nI n) mark) rfl ?_
  refine aw_if_eq rfl (fun h30 => ?_) (fun h30 => absurd h30 (by decide))
  refine aw_go 3 90 [some (.ref 0), some (.ref 2), some (.int (nI i)), some (.int (-1))] [.int (nI i), .ref 2, .ref 0] (teH (nI ss.length) rs (nI n0) sc f0 cap keys dp ln mk pt sl (nI n) mark) rfl ?_
  refine aw_cV [0, 1, 2, 3, 4, 5, 6, 7, 8, 9, 10] (c_Te_tellAtom l cap n keys dp ln mk pt sl mark e0 t h sc n0 f0 (acc) hsc hR (nI ss.length) rs i hi c hT) rfl cw_Te_56 rfl rfl rfl rfl rfl rfl (Nat.le_refl _) (Nat.le_refl _) (fun r h' hp => ?_)
  obtain ⟨rfl, n90, f90, hR90, rfl⟩ := hp
  refine aw_go 2 95 [some (.ref 0), some (.ref 2), some (.int (nI i)), some (.int (-1))] [.ref 2, .ref 0] (teH (nI ss.length) rs (nI n90) sc f90 cap keys dp ln mk pt sl (nI n) mark) rfl ?_
  refine aw_cV [0, 1, 2, 3, 4, 5, 6, 7, 8, 9, 10] (c_Te_goOnInLists l cap n keys dp ln mk pt sl mark e0 t h sc n90 f90 (acc ++ tl_at c) hsc hR90 rs ss (by omega) hob) rfl cw_Te_60 rfl rfl rfl rfl rfl rfl (Nat.le_refl _) (Nat.le_refl _) (fun r h' hp => ?_)
  rcases hp with ⟨rfl, n2, f2, rs2, p1, rfl⟩ | ⟨j, ss2, acc2, n2, f2, rs2, p1, p2, p3, p4, p5, p6, rfl, rfl⟩
  · refine aw_go 0 98 [some (.ref 0), some (.ref 2), some (.int (nI i)), some (.int (-1))] [.int (-1)] (teH 0 rs2 (nI n2) sc f2 cap keys dp ln mk pt sl (nI n) mark) rfl ?_
    exact aw_iret rfl rfl rfl (Or.inl ⟨rfl, n2, f2, rs2, by rw [tlb_a, ← List.append_assoc]; exact p1, rfl⟩) rfl (Nat.le_refl _) (Nat.le_refl _) -- [.int (-1)] (teH 0 rs2 (nI n2) sc f2 cap keys dp ln mk pt sl (nI n) mark)
  · refine aw_go 0 98 [some (.ref 0), some (.ref 2), some (.int (nI i)), some (.int (-1))] [.int (nI j)] (teH (nI ss2.length) rs2 (nI n2) sc f2 cap keys dp ln mk pt sl (nI n) mark) rfl ?_
    exact aw_iret rfl rfl rfl (Or.inr ⟨j, ss2, acc2, n2, f2, rs2, p1, p2, by simp only [List.length_append] at p4; omega, by simp only [List.length_append] at p4; have := tl_at_pos c; omega, p5, by rw [p6, tlb_a, List.append_assoc], rfl, rfl⟩) rfl (Nat.le_refl _) (Nat.le_refl _) -- [.int (nI j)] (teH (nI ss2.length) rs2 (nI n2) sc f2 cap keys dp ln mk pt sl (nI n) mark)
theorem c_Te_tellFront (l : Launch) (cap n : Nat) (keys : Nat → Int64) (dp ln mk pt sl : Nat → Int32) (mark : Int32) (e0 : Nat) (t : Nat → Tr) (h : st_ok cap n e0 keys dp ln sl t) (sc n0 : Nat) (f0 : Nat → Int32) (acc : List Nat) (hsc : sc ≤ 2000) (hR : sh_R sc n0 f0 acc) (rs : Nat → Int32) (ss : List Tr) (hob : ob_R rs t n 0 ss.reverse) (hss : ss.length ≤ acc.length) (hfull : acc.length < sc) (i : Nat) (hi : i < n) : Con l y_Te_tellFront M_Te_tellFront 7 155 [.ref 0, .ref 2, .int (nI i)] (teH (nI ss.length) rs (nI n0) sc f0 cap keys dp ln mk pt sl (nI n) mark) 11 0 0 0 (fun r h' => (r = some (.int (-1)) ∧ ∃ (n2 : Nat) (f2 rs2 : Nat → Int32), sh_R sc n2 f2 (acc ++ (tlb (t i) false ++ tl_rs ss)) ∧ h' = teH 0 rs2 (nI n2) sc f2 cap keys dp ln mk pt sl (nI n) mark) ∨ (∃ (j : Nat) (ss2 : List Tr) (acc2 : List Nat) (n2 : Nat) (f2 rs2 : Nat → Int32), j < n ∧ ob_R rs2 t n 0 ss2.reverse ∧ ss2.length ≤ acc2.length ∧ acc.length < acc2.length ∧ sh_R sc n2 f2 acc2 ∧ acc2 ++ (tlb (t j) false ++ tl_rs ss2) = acc ++ (tlb (t i) false ++ tl_rs ss) ∧ r = some (.int (nI j)) ∧ h' = teH (nI ss2.length) rs2 (nI n2) sc f2 cap keys dp ln mk pt sl (nI n) mark)) := by
  cases hT : t i with
  | var c => rw [← hT]; exact c_Te_tellFront_a l cap n keys dp ln mk pt sl mark e0 t h sc n0 f0 acc hsc hR rs ss hob hss hfull i hi c hT
  | op A B =>
    rw [← hT]
    cases hq : tr_q (t i) with
    | none => exact c_Te_tellFront_p l cap n keys dp ln mk pt sl mark e0 t h sc n0 f0 acc hsc hR rs ss hob hss hfull i hi A B hT hq
    | some X => exact c_Te_tellFront_q l cap n keys dp ln mk pt sl mark e0 t h sc n0 f0 acc hsc hR rs ss hob hss hfull i hi A B X hT hq
set_option maxHeartbeats 2000000 in
set_option maxRecDepth 100000 in
theorem c_Te_tellOn (l : Launch) (cap n : Nat) (keys : Nat → Int64) (dp ln mk pt sl : Nat → Int32) (mark : Int32) (e0 : Nat) (t : Nat → Tr) (h : st_ok cap n e0 keys dp ln sl t) (sc : Nat) (sn : Int32) (f0 : Nat → Int32) (hsc : sc ≤ 2000) (op : Int32) (rs : Nat → Int32) (o : Nat) (ho : o < n) : Con l y_Te_tellOn M_Te_tellOn 8 178 [.ref 0, .ref 2, .int (nI o)] (teH op rs sn sc f0 cap keys dp ln mk pt sl (nI n) mark) 11 0 0 0 (fun r h' => r = none ∧ ∃ (op2 : Int32) (rs2 : Nat → Int32) (n2 : Nat) (f2 : Nat → Int32), sh_R sc n2 f2 (tlb (t o) false) ∧ h' = teH op2 rs2 (nI n2) sc f2 cap keys dp ln mk pt sl (nI n) mark) := by
  have hcap := h.1.cap
  have hn := h.1.2.1
  refine Con.ent ok_Te_tellOn (by decide +kernel) rfl ?_
  intro pA eA sA mA argsA belowA methA cA GA μA
  refine aw_go 1 1 [some (.ref 0), some (.ref 2), some (.int (nI o)), none, none] [.ref 2] (teH op rs sn sc f0 cap keys dp ln mk pt sl (nI n) mark) rfl ?_
  refine aw_cV [2, 3] (c_Sh_clear l sc sn f0) rfl cw_Te_19 rfl rfl rfl rfl rfl rfl (Nat.le_refl _) (Nat.le_refl _) (fun r h' hp => ?_)
  obtain ⟨rfl, rfl⟩ := hp
  refine aw_go 7 14 [some (.ref 0), some (.ref 2), some (.int (nI o)), some (.int (nI o)), some (.int 0)] [] (teH 0 rs 0 sc f0 cap keys dp ln mk pt sl (nI n) mark) rfl ?_
  refine aw_loop (σ := Nat × Int32 × am_H) (fun y => ∃ (ss : List Tr) (acc : List Nat) (n' : Nat) (f' rs' : Nat → Int32), ob_R rs' t n 0 ss.reverse ∧ sh_R sc n' f' acc ∧ (y.1 ≤ acc.length ∧ y.1 ≤ 2000) ∧ ((y.2.1 = -1 ∧ acc = tlb (t o) false) ∨ (∃ j, j < n ∧ y.2.1 = nI j ∧ ss.length ≤ acc.length ∧ acc ++ (tlb (t j) false ++ tl_rs ss) = tlb (t o) false)) ∧ y.2.2 = teH (nI ss.length) rs' (nI n') sc f' cap keys dp ln mk pt sl (nI n) mark) (fun y => 2000 - y.1) (fun y => [some (.ref 0), some (.ref 2), some (.int (nI o)), some (.int y.2.1), some (.int (nI y.1))]) (fun _ => []) (fun y => y.2.2) ?_ (0, nI o, teH 0 rs (nI 0) sc f0 cap keys dp ln mk pt sl (nI n) mark) ⟨[], [], 0, f0, rs, fun m hm => absurd hm (Nat.not_lt_zero m), ⟨by simp, fun j hj => absurd hj (Nat.not_lt_zero j)⟩, ⟨Nat.le_refl _, Nat.zero_le _⟩, Or.inr ⟨o, ho, rfl, Nat.le_refl _, by simp only [tl_rs, List.append_nil, List.nil_append]⟩, rfl⟩
  rintro ⟨st, w, hh⟩ ⟨ss, acc, n', f', rs', g1, g2, g3, g4, g5⟩ ih
  dsimp only at g3 g4 g5 ih ⊢
  subst g5
  refine aw_go 2 19 [some (.ref 0), some (.ref 2), some (.int (nI o)), some (.int w), some (.int (nI st))] [.int 2000, .int (nI st)] (teH (nI ss.length) rs' (nI n') sc f' cap keys dp ln mk pt sl (nI n) mark) rfl ?_
  refine aw_cmp_ge rfl (fun h19 => ?_) (fun h19 => ?_)
  · exact aw_vret rfl rfl ⟨rfl, nI ss.length, rs', n', f', g2.full (by have h9 : ¬ st < 2000 := (fun z => nI_ge (b := 2000) z (by omega) h19); omega) (by rcases g4 with ⟨-, g4⟩ | ⟨j, -, -, -, g4⟩; exact ⟨[], by rw [List.append_nil]; exact g4⟩; exact ⟨_, g4⟩), rfl⟩ rfl (Nat.le_refl _) (Nat.le_refl _) -- [] (teH (nI ss.length) rs' (nI n') sc f' cap keys dp ln mk pt sl (nI n) mark)
  · have hst : st < 2000 := Nat.not_le.mp fun z => h19 (nI_le (a := 2000) z (by have := g2.1; omega))
    refine aw_go 2 24 [some (.ref 0), some (.ref 2), some (.int (nI o)), some (.int w), some (.int (nI st))] [.int (-1), .int w] (teH (nI ss.length) rs' (nI n') sc f' cap keys dp ln mk pt sl (nI n) mark) rfl ?_
    refine aw_cmp_eq rfl (fun h24 => ?_) (fun h24 => ?_)
    · exact aw_vret rfl rfl ⟨rfl, nI ss.length, rs', n', f', (by rcases g4 with ⟨-, g4⟩ | ⟨j, hj, e, -⟩; rw [← g4]; exact g2; rw [h24] at e; exact absurd e.symm (nI_m1 (by omega))), rfl⟩ rfl (Nat.le_refl _) (Nat.le_refl _) -- [] (teH (nI ss.length) rs' (nI n') sc f' cap keys dp ln mk pt sl (nI n) mark)
    · obtain ⟨j, hj, rfl, g6, g7⟩ : ∃ j, j < n ∧ w = nI j ∧ ss.length ≤ acc.length ∧ acc ++ (tlb (t j) false ++ tl_rs ss) = tlb (t o) false := by
        rcases g4 with ⟨e, -⟩ | g4
        · exact absurd e h24
        · exact g4
      refine aw_go 1 28 [some (.ref 0), some (.ref 2), some (.int (nI o)), some (.int (nI j)), some (.int (nI st))] [.ref 2] (teH (nI ss.length) rs' (nI n') sc f' cap keys dp ln mk pt sl (nI n) mark) rfl ?_
      refine aw_cV [2, 3] (c_Sh_isFull l sc n' f' (by omega) (by have := g2.1; omega)) rfl cw_Te_28 rfl rfl rfl rfl rfl rfl (Nat.le_refl _) (Nat.le_refl _) (fun r h' hp => ?_)
      obtain ⟨rfl, rfl⟩ := hp
      refine aw_go 0 31 [some (.ref 0), some (.ref 2), some (.int (nI o)), some (.int (nI j)), some (.int (nI st))] [.int (if n' < sc then 0 else 1)] (teH (nI ss.length) rs' (nI n') sc f' cap keys dp ln mk pt sl (nI n) mark) rfl ?_
      refine aw_if_ne rfl (fun h31 => ?_) (fun h31 => ?_)
      · exact aw_vret rfl rfl ⟨rfl, nI ss.length, rs', n', f', g2.full (by have h9 : ¬ n' < sc := (fun z => h31 (if_pos z)); have := g2.1; omega) ⟨_, g7⟩, rfl⟩ rfl (Nat.le_refl _) (Nat.le_refl _) -- [] (teH (nI ss.length) rs' (nI n') sc f' cap keys dp ln mk pt sl (nI n) mark)
      · have hnf : acc.length < sc := (by have h9 : n' < sc := Classical.byContradiction (fun z => by rw [if_neg z] at h31; exact absurd h31 (by decide)); have := g2.1; omega)
        refine aw_go 3 37 [some (.ref 0), some (.ref 2), some (.int (nI o)), some (.int (nI j)), some (.int (nI st))] [.int (nI j), .ref 2, .ref 0] (teH (nI ss.length) rs' (nI n') sc f' cap keys dp ln mk pt sl (nI n) mark) rfl ?_
        refine aw_cV [0, 1, 2, 3, 4, 5, 6, 7, 8, 9, 10] (c_Te_tellFront l cap n keys dp ln mk pt sl mark e0 t h sc n' f' acc hsc g2 rs' ss g1 g6 hnf j hj) rfl cw_Te_32 rfl rfl rfl rfl rfl rfl (Nat.le_refl _) (Nat.le_refl _) (fun r h' hp => ?_)
        rcases hp with ⟨rfl, n2, f2, rs2, p1, rfl⟩ | ⟨j2, ss2, acc2, n2, f2, rs2, p1, p2, p3, p4, p5, p6, rfl, rfl⟩
        · refine aw_go 3 14 [some (.ref 0), some (.ref 2), some (.int (nI o)), some (.int (-1)), some (.int ((nI st) + 1))] [] (teH 0 rs2 (nI n2) sc f2 cap keys dp ln mk pt sl (nI n) mark) rfl ?_
          -- LOOP 14: [some (.ref 0), some (.ref 2), some (.int (nI o)), some (.int (-1)), some (.int ((nI st) + 1))] [] (teH 0 rs2 (nI n2) sc f2 cap keys dp ln mk pt sl (nI n) mark)
          exact aw_eq (by simp only [nI_succ]) rfl rfl (ih (st + 1, -1, _) ⟨[], tlb (t o) false, n2, f2, rs2, fun m hm => absurd hm (Nat.not_lt_zero m), by rw [← g7]; exact p1, ⟨by show st + 1 ≤ _; rw [← g7]; simp only [List.length_append]; have := tlb_pos (t j) false; omega, by show st + 1 ≤ 2000; omega⟩, Or.inl ⟨rfl, rfl⟩, rfl⟩ (by show 2000 - (st + 1) < 2000 - st; omega))
        · refine aw_go 3 14 [some (.ref 0), some (.ref 2), some (.int (nI o)), some (.int (nI j2)), some (.int ((nI st) + 1))] [] (teH (nI ss2.length) rs2 (nI n2) sc f2 cap keys dp ln mk pt sl (nI n) mark) rfl ?_
          -- LOOP 14: [some (.ref 0), some (.ref 2), some (.int (nI o)), some (.int (nI j2)), some (.int ((nI st) + 1))] [] (teH (nI ss2.length) rs2 (nI n2) sc f2 cap keys dp ln mk pt sl (nI n) mark)
          exact aw_eq (by simp only [nI_succ]) rfl rfl (ih (st + 1, nI j2, _) ⟨ss2, acc2, n2, f2, rs2, p2, p5, ⟨by show st + 1 ≤ _; omega, by show st + 1 ≤ 2000; omega⟩, Or.inr ⟨j2, p1, rfl, p3, by rw [p6]; exact g7⟩, rfl⟩ (by show 2000 - (st + 1) < 2000 - st; omega))
