/-! Store: naturalOf, symbolOf, pairOf -/
def k_kd (key : Int64) : Nat := key.toBitVec.toNat % 4
def k_vl (key : Int64) : Nat := key.toBitVec.toNat / 4
theorem k_all (key : Int64) : key = lN (4 * k_vl key + k_kd key) := by
  obtain ⟨m, hm, rfl⟩ := wb_of key
  unfold k_vl k_kd
  rw [wb_tn hm, Nat.div_add_mod]
theorem k_of {v k : Nat} (hv : v < 4611686018427387904) (hk : k < 4) : k_kd (lN (4 * v + k)) = k ∧ k_vl (lN (4 * v + k)) = v := by
  unfold k_vl k_kd
  rw [wb_tn (by omega)]
  omega
theorem st_k_all {cap n : Nat} {keys : Nat → Int64} (h1 : n ≤ cap) (h2 : cap ≤ 16384) : st_k cap n keys (fun i => k_kd (keys i)) (fun i => k_vl (keys i)) := ⟨h1, h2, fun i _ => ⟨k_all _, Nat.mod_lt _ (by omega), by
  have := (keys i).toBitVec.isLt
  show (keys i).toBitVec.toNat / 4 < _
  omega⟩⟩
theorem lg_side {a b : Nat} (ha : a < 1048576) (hb : b < 1048576) : ((Int32.toInt64 (nI a)) <<< (Int32.toInt64 20 &&& 63)) ||| (Int32.toInt64 (nI b)) = lN (a * 1048576 + b) := by
  rw [nI_l (by omega), nI_l (by omega)]
  have h1 : lN a <<< (Int32.toInt64 20 &&& 63) = lN (a * 1048576) := wb_shl a (k := 20) (by omega)
  rw [h1, g_or (k := 20) (p := 1048576) (by decide) hb (by omega)]
theorem tr_len_nat (v : Nat) : tr_len (tr_nat v) = none := by
  simp only [tr_nat, tr_len]
  rw [if_neg (by omega)]
theorem tr_len_sym {v : Nat} (h : v ≠ sy_nil) : tr_len (tr_sym v) = none := by
  simp only [tr_sym, tr_len]
  rw [if_neg (by omega)]
/-- an object with this tree stands in the Store behind a call: the old ones stand where they stood -/
def st_ex (cap e0 n : Nat) (t : Nat → Tr) (mk pt : Nat → Int32) (mark : Int32) (T : Tr) (r : Option Value) (h' : am_H) : Prop := ∃ (j n2 : Nat) (keys2 : Nat → Int64) (dp2 ln2 sl2 : Nat → Int32) (t2 : Nat → Tr), st_ok cap n2 e0 keys2 dp2 ln2 sl2 t2 ∧ j < n2 ∧ t2 j = T ∧ n ≤ n2 ∧ n2 ≤ n + 1 ∧ (∀ i, i < n → t2 i = t i) ∧ r = some (.int (nI j)) ∧ h' = stH cap keys2 dp2 ln2 mk pt sl2 (nI n2) mark
theorem st_ex.of {cap n e0 : Nat} {keys : Nat → Int64} {dp ln mk pt sl : Nat → Int32} {mark : Int32} {t : Nat → Tr} (h : st_ok cap n e0 keys dp ln sl t) {v k : Nat} {T : Tr} (hd : st_des n t v k T) {dep len : Int32} (h1 : dep = nI (tr_dep T)) (h2 : (∀ j, j < n → keys j ≠ lN (4 * v + k)) → len = oI (tr_len T)) {r : Option Value} {h' : am_H} (hp : (∃ j, j < n ∧ keys j = lN (4 * v + k) ∧ r = some (.int (nI j)) ∧ h' = stH cap keys dp ln mk pt sl (nI n) mark) ∨ ((∀ j, j < n → keys j ≠ lN (4 * v + k)) ∧ r = some (.int (nI n)) ∧ ∃ sl2, st_tb cap (n + 1) e0 (vp_updL keys n (lN (4 * v + k))) sl2 ∧ h' = stH cap (vp_updL keys n (lN (4 * v + k))) (upd dp n dep) (upd ln n len) mk pt sl2 (nI (n + 1)) mark)) : st_ex cap e0 n t mk pt mark T r h' := by
  rcases hp with ⟨j, hj, hk, rfl, rfl⟩ | ⟨hno, rfl, sl2, htb, rfl⟩
  · exact ⟨j, n, keys, dp, ln, sl, t, h, hj, h.key hd hj hk, Nat.le_refl _, by omega, fun _ _ => rfl, rfl, rfl⟩
  · have := h2 hno
    subst h1
    subst this
    exact ⟨n, n + 1, _, _, _, sl2, va_up t n T, h.push hd htb, by omega, va_up_self _ _ _, by omega, by omega, fun i hi => va_up_ne _ _ (by omega), rfl, rfl⟩
theorem st_ok.nonil {cap n e0 : Nat} {keys : Nat → Int64} {dp ln sl : Nat → Int32} {t : Nat → Tr} (h : st_ok cap n e0 keys dp ln sl t) {v : Nat} (hq : ∀ j, j < n → keys j ≠ lN (4 * v + 1)) : v ≠ sy_nil := by
  intro e
  have h0 : 0 < n := by have := h.2.2.1; omega
  obtain ⟨-, -, -, -, g⟩ := h.2.1 0 h0
  rw [h.2.2.2.1] at g
  rcases g with ⟨w, g1, g2, g3⟩ | ⟨w, g1, g2, g3⟩ | ⟨a, b, g1, -⟩
  · exact tr_ns g3.symm
  · have := tr_sym_inj g3
    exact hq 0 h0 (by rw [g2, e, this])
  · omega
theorem st_ok.dep2 {cap n e0 : Nat} {keys : Nat → Int64} {dp ln sl : Nat → Int32} {t : Nat → Tr} (h : st_ok cap n e0 keys dp ln sl t) {a b : Nat} (ha : a < n) (hb : b < n) : 1 + (if (dp a) < (dp b) then (dp b) else (dp a)) = nI (tr_dep (.op (t a) (t b))) := by
  have hc := h.1.cap
  have hn := h.1.2.1
  obtain ⟨a1, a2, -⟩ := h.2.1 a ha
  obtain ⟨b1, b2, -⟩ := h.2.1 b hb
  rw [a1, b1]
  simp only [tr_dep]
  by_cases q : tr_dep (t a) < tr_dep (t b)
  · rw [if_pos (nI_lt q (by omega)), show max (tr_dep (t a)) (tr_dep (t b)) = tr_dep (t b) by omega]
    exact nI_add 1 _
  · rw [if_neg (nI_nlt (by omega) (by omega)), show max (tr_dep (t a)) (tr_dep (t b)) = tr_dep (t a) by omega]
    exact nI_add 1 _
theorem st_ok.len1 {cap n e0 : Nat} {keys : Nat → Int64} {dp ln sl : Nat → Int32} {t : Nat → Tr} (h : st_ok cap n e0 keys dp ln sl t) {T : Tr} {b : Nat} (hb : b < n) (hq : ln b = -1) : (-1 : Int32) = oI (tr_len (.op T (t b))) := by
  obtain ⟨-, -, b3, b4, -⟩ := h.2.1 b hb
  have hc := h.1.cap
  have hn := h.1.2.1
  rw [hq] at b3
  simp only [tr_len]
  cases hl : tr_len (t b) with
  | none => rfl
  | some q =>
    rw [hl] at b3
    have := b4 q hl
    exact absurd b3.symm (nI_m1 (by omega))
theorem st_ok.len2 {cap n e0 : Nat} {keys : Nat → Int64} {dp ln sl : Nat → Int32} {t : Nat → Tr} (h : st_ok cap n e0 keys dp ln sl t) {T : Tr} {b : Nat} (hb : b < n) (hq : ¬ ln b = -1) : ln b + 1 = oI (tr_len (.op T (t b))) := by
  obtain ⟨-, -, b3, b4, -⟩ := h.2.1 b hb
  simp only [tr_len]
  cases hl : tr_len (t b) with
  | none => rw [hl] at b3; exact absurd b3 hq
  | some q =>
    rw [b3, hl]
    exact nI_1 q
set_option maxHeartbeats 2000000 in
set_option maxRecDepth 100000 in
theorem c_St_naturalOf (l : Launch) (cap n : Nat) (keys : Nat → Int64) (dp ln mk pt sl : Nat → Int32) (mark : Int32) (e0 : Nat) (t : Nat → Tr) (h : st_ok cap n e0 keys dp ln sl t) (v : Nat) (hv : v < 4611686018427387904) (hn : n < cap) : Con l y_St_naturalOf M_St_naturalOf 2 54 [.ref 0, .long (lN v)] (stH cap keys dp ln mk pt sl (nI n) mark) 7 0 0 0 (fun r h' => st_ex cap e0 n t mk pt mark (tr_nat v) r h') := by
  refine Con.ent ok_St_naturalOf (by decide +kernel) rfl ?_
  intro pA eA sA mA argsA belowA methA cA GA μA
  refine aw_go 5 5 [some (.ref 0), some (.long (lN v)), none] [.int (-1), .int 0, .long (lN v), .int 0, .ref 0] (stH cap keys dp ln mk pt sl (nI n) mark) rfl ?_
  refine aw_cV [0, 1, 2, 3, 4, 5, 6] (c_St_numberOf l cap n keys dp ln mk pt sl mark (v) 0 (0) (-1) e0 h.1 hv (by omega) hn) rfl cw_St_59 rfl rfl rfl rfl rfl rfl (Nat.le_refl _) (Nat.le_refl _) (fun r h' hp => ?_)
  have hp0 := hp
  have hx := st_ex.of h (v := v) (k := 0) (T := tr_nat v) (Or.inl ⟨hv, rfl, rfl⟩) (show (0 : Int32) = nI 0 from rfl) (fun _ => (by rw [tr_len_nat]; rfl)) hp0
  obtain ⟨j, n2, keys2, dp2, ln2, sl2, t2, g1, g2, g3, g4, g5, g6, rfl, rfl⟩ := hx
  refine aw_go 0 8 _ [.int (nI j)] (stH cap keys2 dp2 ln2 mk pt sl2 (nI n2) mark) rfl ?_
  exact aw_iret rfl rfl rfl ⟨j, n2, keys2, dp2, ln2, sl2, t2, g1, g2, g3, g4, g5, g6, rfl, rfl⟩ rfl (Nat.le_refl _) (Nat.le_refl _)
set_option maxHeartbeats 2000000 in
set_option maxRecDepth 100000 in
theorem c_St_symbolOf (l : Launch) (cap n : Nat) (keys : Nat → Int64) (dp ln mk pt sl : Nat → Int32) (mark : Int32) (e0 : Nat) (t : Nat → Tr) (h : st_ok cap n e0 keys dp ln sl t) (v : Nat) (hv : v < 4611686018427387904) (hn : n < cap) : Con l y_St_symbolOf M_St_symbolOf 2 54 [.ref 0, .long (lN v)] (stH cap keys dp ln mk pt sl (nI n) mark) 7 0 0 0 (fun r h' => st_ex cap e0 n t mk pt mark (tr_sym v) r h') := by
  refine Con.ent ok_St_symbolOf (by decide +kernel) rfl ?_
  intro pA eA sA mA argsA belowA methA cA GA μA
  refine aw_go 5 5 [some (.ref 0), some (.long (lN v)), none] [.int (-1), .int 0, .long (lN v), .int 1, .ref 0] (stH cap keys dp ln mk pt sl (nI n) mark) rfl ?_
  refine aw_cV [0, 1, 2, 3, 4, 5, 6] (c_St_numberOf l cap n keys dp ln mk pt sl mark (v) 1 (0) (-1) e0 h.1 hv (by omega) hn) rfl cw_St_59 rfl rfl rfl rfl rfl rfl (Nat.le_refl _) (Nat.le_refl _) (fun r h' hp => ?_)
  have hp0 := hp
  have hx := st_ex.of h (v := v) (k := 1) (T := tr_sym v) (Or.inr (Or.inl ⟨hv, rfl, rfl⟩)) (show (0 : Int32) = nI 0 from rfl) (fun q => (by rw [tr_len_sym (h.nonil q)]; rfl)) hp0
  obtain ⟨j, n2, keys2, dp2, ln2, sl2, t2, g1, g2, g3, g4, g5, g6, rfl, rfl⟩ := hx
  refine aw_go 0 8 _ [.int (nI j)] (stH cap keys2 dp2 ln2 mk pt sl2 (nI n2) mark) rfl ?_
  exact aw_iret rfl rfl rfl ⟨j, n2, keys2, dp2, ln2, sl2, t2, g1, g2, g3, g4, g5, g6, rfl, rfl⟩ rfl (Nat.le_refl _) (Nat.le_refl _)
set_option maxHeartbeats 2000000 in
set_option maxRecDepth 100000 in
theorem c_St_pairOf (l : Launch) (cap n : Nat) (keys : Nat → Int64) (dp ln mk pt sl : Nat → Int32) (mark : Int32) (e0 : Nat) (t : Nat → Tr) (h : st_ok cap n e0 keys dp ln sl t) (a b : Nat) (ha : a < n) (hb : b < n) (hn : n < cap) : Con l y_St_pairOf M_St_pairOf 2 54 [.ref 0, .int (nI a), .int (nI b)] (stH cap keys dp ln mk pt sl (nI n) mark) 7 0 0 0 (fun r h' => st_ex cap e0 n t mk pt mark (.op (t a) (t b)) r h') := by
  refine Con.ent ok_St_pairOf (by decide +kernel) rfl ?_
  intro pA eA sA mA argsA belowA methA cA GA μA
  have hc := h.1.cap
  have hn1 := h.1.2.1
  have hk := st_k_all (keys := keys) hn1 hc.2
  have hv : a * 1048576 + b < 4611686018427387904 := by omega
  refine aw_go 8 9 [some (.ref 0), some (.int (nI a)), some (.int (nI b)), some (.long (((Int32.toInt64 (nI a)) <<< (Int32.toInt64 20 &&& 63)) ||| (Int32.toInt64 (nI b)))), none, none, none] [] (stH cap keys dp ln mk pt sl (nI n) mark) rfl ?_
  rw [lg_side (by omega) (by omega)]
  refine aw_go 3 12 [some (.ref 0), some (.int (nI a)), some (.int (nI b)), some (.long (lN (a * 1048576 + b))), none, none, none] [.int (nI a), .ref 0, .int 1] (stH cap keys dp ln mk pt sl (nI n) mark) rfl ?_
  refine aw_cV [0, 1, 2, 3, 4, 5, 6] (c_St_depthOf l cap n keys dp ln mk pt sl mark (fun i => k_kd (keys i)) (fun i => k_vl (keys i)) hk a ha) rfl cw_St_63 rfl rfl rfl rfl rfl rfl (Nat.le_refl _) (Nat.le_refl _) (fun r h' hp => ?_)
  obtain ⟨rfl, rfl⟩ := hp
  refine aw_go 2 17 [some (.ref 0), some (.int (nI a)), some (.int (nI b)), some (.long (lN (a * 1048576 + b))), none, none, none] [.int (nI b), .ref 0, .int (dp a), .int 1] (stH cap keys dp ln mk pt sl (nI n) mark) rfl ?_
  refine aw_cV [0, 1, 2, 3, 4, 5, 6] (c_St_depthOf l cap n keys dp ln mk pt sl mark (fun i => k_kd (keys i)) (fun i => k_vl (keys i)) hk b hb) rfl cw_St_63 rfl rfl rfl rfl rfl rfl (Nat.le_refl _) (Nat.le_refl _) (fun r h' hp => ?_)
  obtain ⟨rfl, rfl⟩ := hp
  refine aw_go 0 20 [some (.ref 0), some (.int (nI a)), some (.int (nI b)), some (.long (lN (a * 1048576 + b))), none, none, none] [.int (dp b), .int (dp a), .int 1] (stH cap keys dp ln mk pt sl (nI n) mark) rfl ?_
  refine aw_max rfl (by decide +kernel) (Nat.le_of_ble_eq_true rfl) (Nat.le_of_ble_eq_true rfl) (Nat.le_of_ble_eq_true rfl) (Nat.le_refl _) (Nat.le_refl _) ?_
  refine aw_go 2 26 [some (.ref 0), some (.int (nI a)), some (.int (nI b)), some (.long (lN (a * 1048576 + b))), none, some (.int (1 + (if (dp a) < (dp b) then (dp b) else (dp a)))), none] [] (stH cap keys dp ln mk pt sl (nI n) mark) rfl ?_
  rw [h.dep2 ha hb]
  refine aw_go 2 28 [some (.ref 0), some (.int (nI a)), some (.int (nI b)), some (.long (lN (a * 1048576 + b))), none, some (.int (nI (tr_dep (.op (t a) (t b))))), none] [.int (nI b), .ref 0] (stH cap keys dp ln mk pt sl (nI n) mark) rfl ?_
  refine aw_cV [0, 1, 2, 3, 4, 5, 6] (c_St_lengthOf l cap n keys dp ln mk pt sl mark (fun i => k_kd (keys i)) (fun i => k_vl (keys i)) hk b hb) rfl cw_St_73 rfl rfl rfl rfl rfl rfl (Nat.le_refl _) (Nat.le_refl _) (fun r h' hp => ?_)
  obtain ⟨rfl, rfl⟩ := hp
  refine aw_go 7 41 [some (.ref 0), some (.int (nI a)), some (.int (nI b)), some (.long (lN (a * 1048576 + b))), none, some (.int (nI (tr_dep (.op (t a) (t b))))), some (.int (ln b))] [.int (-1), .int (ln b), .int (nI (tr_dep (.op (t a) (t b)))), .long (lN (a * 1048576 + b)), .int 2, .ref 0] (stH cap keys dp ln mk pt sl (nI n) mark) rfl ?_
  refine aw_cmp_ne rfl (fun h41 => ?_) (fun h41 => ?_)
  · refine aw_go 3 52 [some (.ref 0), some (.int (nI a)), some (.int (nI b)), some (.long (lN (a * 1048576 + b))), none, some (.int (nI (tr_dep (.op (t a) (t b))))), some (.int (ln b))] [.int ((ln b) + 1), .int (nI (tr_dep (.op (t a) (t b)))), .long (lN (a * 1048576 + b)), .int 2, .ref 0] (stH cap keys dp ln mk pt sl (nI n) mark) rfl ?_
    rw [show ((ln b) + 1 : Int32) = oI (tr_len (.op (t a) (t b))) from h.len2 hb h41]
    refine aw_cV [0, 1, 2, 3, 4, 5, 6] (c_St_numberOf l cap n keys dp ln mk pt sl mark (a * 1048576 + b) 2 (nI (tr_dep (.op (t a) (t b)))) (oI (tr_len (.op (t a) (t b)))) e0 h.1 hv (by omega) hn) rfl cw_St_59 rfl rfl rfl rfl rfl rfl (Nat.le_refl _) (Nat.le_refl _) (fun r h' hp0 => ?_)
    have hx := st_ex.of h (v := a * 1048576 + b) (k := 2) (T := .op (t a) (t b)) (Or.inr (Or.inr ⟨rfl, a, b, ha, hb, rfl, rfl⟩)) rfl (fun _ => rfl) hp0
    obtain ⟨j, n2, keys2, dp2, ln2, sl2, t2, g1, g2, g3, g4, g5, g6, rfl, rfl⟩ := hx
    refine aw_go 0 55 _ [.int (nI j)] (stH cap keys2 dp2 ln2 mk pt sl2 (nI n2) mark) rfl ?_
    exact aw_iret rfl rfl rfl ⟨j, n2, keys2, dp2, ln2, sl2, t2, g1, g2, g3, g4, g5, g6, rfl, rfl⟩ rfl (Nat.le_refl _) (Nat.le_refl _)
  · refine aw_go 2 52 [some (.ref 0), some (.int (nI a)), some (.int (nI b)), some (.long (lN (a * 1048576 + b))), none, some (.int (nI (tr_dep (.op (t a) (t b))))), some (.int (ln b))] [.int (-1), .int (nI (tr_dep (.op (t a) (t b)))), .long (lN (a * 1048576 + b)), .int 2, .ref 0] (stH cap keys dp ln mk pt sl (nI n) mark) rfl ?_
    rw [show (-1 : Int32) = oI (tr_len (.op (t a) (t b))) from h.len1 hb h41]
    refine aw_cV [0, 1, 2, 3, 4, 5, 6] (c_St_numberOf l cap n keys dp ln mk pt sl mark (a * 1048576 + b) 2 (nI (tr_dep (.op (t a) (t b)))) (oI (tr_len (.op (t a) (t b)))) e0 h.1 hv (by omega) hn) rfl cw_St_59 rfl rfl rfl rfl rfl rfl (Nat.le_refl _) (Nat.le_refl _) (fun r h' hp0 => ?_)
    have hx := st_ex.of h (v := a * 1048576 + b) (k := 2) (T := .op (t a) (t b)) (Or.inr (Or.inr ⟨rfl, a, b, ha, hb, rfl, rfl⟩)) rfl (fun _ => rfl) hp0
    obtain ⟨j, n2, keys2, dp2, ln2, sl2, t2, g1, g2, g3, g4, g5, g6, rfl, rfl⟩ := hx
    refine aw_go 0 55 _ [.int (nI j)] (stH cap keys2 dp2 ln2 mk pt sl2 (nI n2) mark) rfl ?_
    exact aw_iret rfl rfl rfl ⟨j, n2, keys2, dp2, ln2, sl2, t2, g1, g2, g3, g4, g5, g6, rfl, rfl⟩ rfl (Nat.le_refl _) (Nat.le_refl _)
