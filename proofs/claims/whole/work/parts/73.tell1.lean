/-! the Teller on trees -/
def tl_at (c : Nat) : List Nat := if c % 2 = 0 then (dl 10 (tl_K 10 (c / 2) 18 1) (c / 2)).map (am_ch 1) else (dl 47 (tl_K 47 (c / 2) 18 1) (c / 2)).map (am_ch 0)
/-- an object as it is told; and the rest of a list that has begun -/
def tlb : Tr → Bool → List Nat
  | .var c, false => tl_at c
  | .var c, true => if c = 2 * sy_nil + 1 then [41] else 32 :: 46 :: 32 :: (tl_at c ++ [41])
  | .op a b, true => 32 :: (tlb a false ++ tlb b true)
  | .op a (.op x n), false => if tr_is (2 * sy_quote + 1) a = true ∧ tr_is (2 * sy_nil + 1) n = true then 39 :: tlb x false else 40 :: (tlb a false ++ tlb (.op x n) true)
  | .op a (.var c), false => 40 :: (tlb a false ++ tlb (.var c) true)
theorem tlb_q {a b x : Tr} (h : tr_q (.op a b) = some x) : tlb (.op a b) false = 39 :: tlb x false := by
  cases b with
  | var c => cases h
  | op y n =>
    simp only [tr_q] at h
    split at h
    · rename_i hq
      cases h
      simp only [tlb, if_pos hq]
    · cases h
theorem tlb_p {a b : Tr} (h : tr_q (.op a b) = none) : tlb (.op a b) false = 40 :: (tlb a false ++ tlb b true) := by
  cases b with
  | var c => simp only [tlb]
  | op y n =>
    simp only [tr_q] at h
    split at h
    · cases h
    · rename_i hq
      simp only [tlb, if_neg hq]
theorem tlb_r (a b : Tr) : tlb (.op a b) true = 32 :: (tlb a false ++ tlb b true) := by simp only [tlb]
theorem tlb_nil : tlb tr_nil true = [41] := by
  simp only [tr_nil, tr_sym, tlb, if_true]
theorem tlb_dot {c : Nat} (h : c ≠ 2 * sy_nil + 1) : tlb (.var c) true = 32 :: 46 :: 32 :: (tl_at c ++ [41]) := by
  simp only [tlb, if_neg h]
theorem tlb_a (c : Nat) : tlb (.var c) false = tl_at c := by simp only [tlb]
/-- the rests of all lists that have begun, the inmost first -/
def tl_rs : List Tr → List Nat
  | [] => []
  | T :: r => tlb T true ++ tl_rs r
theorem dl_len (b v : Nat) : ∀ q, (dl b q v).length = q := by
  intro q
  induction q with
  | zero => rfl
  | succ q ih => simp only [dl, List.length_cons, ih]
theorem tl_at_pos (c : Nat) : 1 ≤ (tl_at c).length := by
  unfold tl_at
  split
  · rw [List.length_map, dl_len]; exact tl_K_pos _ _ _
  · rw [List.length_map, dl_len]; exact tl_K_pos _ _ _
def teH (op : Int32) (rs : Nat → Int32) (sn : Int32) (sc : Nat) (sf : Nat → Int32) (cap : Nat) (keys : Nat → Int64) (dp ln mk pt sl : Nat → Int32) (cnt mark : Int32) : am_H := [.inr (4, [.ref 4, .ref 1, .int op]), .inl (0, 2000, .inl rs), .inr (2, [.ref 3, .int sn]), .inl (2, sc, .inl sf), .inr (3, [.ref 5, .ref 6, .ref 7, .ref 8, .ref 9, .ref 10, .int cnt, .int mark]), .inl (1, cap, .inr (.inl keys)), .inl (0, cap, .inl dp), .inl (0, cap, .inl ln), .inl (0, cap, .inl mk), .inl (0, cap, .inl pt), .inl (0, 2 * cap, .inl sl)]
set_option maxHeartbeats 2000000 in
set_option maxRecDepth 100000 in
theorem c_Te_tellAtom (l : Launch) (cap n : Nat) (keys : Nat → Int64) (dp ln mk pt sl : Nat → Int32) (mark : Int32) (e0 : Nat) (t : Nat → Tr) (h : st_ok cap n e0 keys dp ln sl t) (sc n0 : Nat) (f0 : Nat → Int32) (acc : List Nat) (hsc : sc ≤ 2000) (hR : sh_R sc n0 f0 acc) (op : Int32) (rs : Nat → Int32) (i : Nat) (hi : i < n) (c : Nat) (hT : t i = .var c) : Con l y_Te_tellAtom M_Te_tellAtom 5 111 [.ref 0, .ref 2, .int (nI i)] (teH op rs (nI n0) sc f0 cap keys dp ln mk pt sl (nI n) mark) 11 0 0 0 (fun r h' => r = none ∧ ∃ n2 f2, sh_R sc n2 f2 (acc ++ tl_at c) ∧ h' = teH op rs (nI n2) sc f2 cap keys dp ln mk pt sl (nI n) mark) := by
  have hv := ((h.node hi).2.1 c hT).2
  refine Con.ent ok_Te_tellAtom (by decide +kernel) rfl ?_
  intro pA eA sA mA argsA belowA methA cA GA μA
  refine aw_go 3 5 [some (.ref 0), some (.ref 2), some (.int (nI i))] [.int (nI i), .ref 4] (teH op rs (nI n0) sc f0 cap keys dp ln mk pt sl (nI n) mark) rfl ?_
  refine aw_cV [4, 5, 6, 7, 8, 9, 10] (c_St_kd l cap n keys dp ln mk pt sl mark e0 t h i hi) rfl cw_Te_64 rfl rfl rfl rfl rfl rfl (Nat.le_refl _) (Nat.le_refl _) (fun r h' hp => ?_)
  obtain ⟨rfl, rfl⟩ := hp
  rw [hT, show tr_kd (.var c) = c % 2 from rfl]
  refine aw_go 0 8 [some (.ref 0), some (.ref 2), some (.int (nI i))] [.int (nI (c % 2))] (teH op rs (nI n0) sc f0 cap keys dp ln mk pt sl (nI n) mark) rfl ?_
  refine aw_if_ne rfl (fun h8 => ?_) (fun h8 => ?_)
  · refine aw_go 4 34 [some (.ref 0), some (.ref 2), some (.int (nI i))] [.int (nI i), .ref 4, .ref 2] (teH op rs (nI n0) sc f0 cap keys dp ln mk pt sl (nI n) mark) rfl ?_
    refine aw_cV [4, 5, 6, 7, 8, 9, 10] (c_St_vl l cap n keys dp ln mk pt sl mark e0 t h i hi c hT) rfl cw_Te_67 rfl rfl rfl rfl rfl rfl (Nat.le_refl _) (Nat.le_refl _) (fun r h' hp => ?_)
    obtain ⟨rfl, rfl⟩ := hp
    refine aw_go 1 39 [some (.ref 0), some (.ref 2), some (.int (nI i))] [.ref 2000000, .long (lN (c / 2)), .ref 2] (teH op rs (nI n0) sc f0 cap keys dp ln mk pt sl (nI n) mark) rfl ?_
    refine aw_cS [2, 3] (c_Te_tellDigits_0 l sc n0 f0 (acc) (by omega) hR (c / 2) hv) rfl cw_Te_75 rfl rfl rfl rfl (Nat.le_refl _) (Nat.le_refl _) (fun r h' hp => ?_)
    obtain ⟨rfl, n39, f39, hR39, rfl⟩ := hp
    refine aw_go 0 42 [some (.ref 0), some (.ref 2), some (.int (nI i))] [] (teH op rs (nI n39) sc f39 cap keys dp ln mk pt sl (nI n) mark) rfl ?_
    exact aw_vret rfl rfl ⟨rfl, n39, f39, by rw [show tl_at c = _ from if_neg (fun z => h8 (by rw [z]; rfl))]; exact hR39, rfl⟩ rfl (Nat.le_refl _) (Nat.le_refl _) -- [] (teH op rs (nI n39) sc f39 cap keys dp ln mk pt sl (nI n) mark)
  · refine aw_go 4 17 [some (.ref 0), some (.ref 2), some (.int (nI i))] [.int (nI i), .ref 4, .ref 2] (teH op rs (nI n0) sc f0 cap keys dp ln mk pt sl (nI n) mark) rfl ?_
    refine aw_cV [4, 5, 6, 7, 8, 9, 10] (c_St_vl l cap n keys dp ln mk pt sl mark e0 t h i hi c hT) rfl cw_Te_67 rfl rfl rfl rfl rfl rfl (Nat.le_refl _) (Nat.le_refl _) (fun r h' hp => ?_)
    obtain ⟨rfl, rfl⟩ := hp
    refine aw_go 1 22 [some (.ref 0), some (.ref 2), some (.int (nI i))] [.ref 2000001, .long (lN (c / 2)), .ref 2] (teH op rs (nI n0) sc f0 cap keys dp ln mk pt sl (nI n) mark) rfl ?_
    refine aw_cS [2, 3] (c_Te_tellDigits_1 l sc n0 f0 (acc) (by omega) hR (c / 2) hv) rfl cw_Te_75 rfl rfl rfl rfl (Nat.le_refl _) (Nat.le_refl _) (fun r h' hp => ?_)
    obtain ⟨rfl, n22, f22, hR22, rfl⟩ := hp
    refine aw_go 1 42 [some (.ref 0), some (.ref 2), some (.int (nI i))] [] (teH op rs (nI n22) sc f22 cap keys dp ln mk pt sl (nI n) mark) rfl ?_
    exact aw_vret rfl rfl ⟨rfl, n22, f22, by rw [show tl_at c = _ from if_pos (nI_inj (b := 0) (by omega) (by omega) h8)]; exact hR22, rfl⟩ rfl (Nat.le_refl _) (Nat.le_refl _) -- [] (teH op rs (nI n22) sc f22 cap keys dp ln mk pt sl (nI n) mark)
