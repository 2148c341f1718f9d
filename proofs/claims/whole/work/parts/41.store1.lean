/-! Store: what is read of it -/
def stH (cap : Nat) (keys : Nat → Int64) (dp ln mk pt sl : Nat → Int32) (cnt mark : Int32) : am_H := [.inr (3, [.ref 1, .ref 2, .ref 3, .ref 4, .ref 5, .ref 6, .int cnt, .int mark]), .inl (1, cap, .inr (.inl keys)), .inl (0, cap, .inl dp), .inl (0, cap, .inl ln), .inl (0, cap, .inl mk), .inl (0, cap, .inl pt), .inl (0, 2 * cap, .inl sl)]
/-- the keys: a kind, a value -/
def st_k (cap n : Nat) (keys : Nat → Int64) (kd vl : Nat → Nat) : Prop := n ≤ cap ∧ cap ≤ 16384 ∧ ∀ i, i < n → keys i = lN (4 * vl i + kd i) ∧ kd i < 4 ∧ vl i < 4611686018427387904
theorem lg_m3 {v k : Nat} (hv : v < 4611686018427387904) (hk : k < 4) : lN (4 * v + k) &&& 3 = lN k := by
  have h := wb_mask (n := 4 * v + k) (k := 2) (by omega) (by omega)
  rw [show (4 * v + k) % 2 ^ 2 = k by omega] at h
  exact h
theorem lg_s2 {v k : Nat} (hv : v < 4611686018427387904) (hk : k < 4) : (Int64.toUInt64 (lN (4 * v + k)) >>> ((Int32.toInt64 2).toUInt64 &&& Int64.toUInt64 63)).toInt64 = lN v := by
  have h := wb_shr (n := 4 * v + k) (k := 2) (by omega) (by omega)
  rw [show (4 * v + k) / 2 ^ 2 = v by omega] at h
  exact h
theorem lg_s20 {v : Nat} (hv : v < 18446744073709551616) : (Int64.toUInt64 (lN v) >>> ((Int32.toInt64 20).toUInt64 &&& Int64.toUInt64 63)).toInt64 = lN (v / 1048576) := wb_shr (n := v) (k := 20) hv (by omega)
theorem lg_m20 {v : Nat} (hv : v < 18446744073709551616) : lN v &&& 1048575 = lN (v % 1048576) := wb_mask (n := v) (k := 20) hv (by omega)
theorem lg_c0 {a b : Int64} : lg_cmp a b = 0 ↔ a = b := by
  unfold lg_cmp
  constructor
  · intro h
    split at h
    · cases h
    · split at h
      · assumption
      · cases h
  · intro h
    subst h
    simp
theorem lg_k2 {cap n : Nat} {keys : Nat → Int64} {kd vl : Nat → Nat} (hk : st_k cap n keys kd vl) {i : Nat} (hi : i < n) (h : lg_cmp (keys i &&& 3) 2 = 0) : kd i = 2 := by
  have h1 := lg_c0.mp h
  rw [(hk.2.2 i hi).1, lg_m3 (hk.2.2 i hi).2.2 (hk.2.2 i hi).2.1] at h1
  have h2 := (hk.2.2 i hi).2.1
  exact (pk_lEQ (a := kd i) (b := 2) (by omega) (by omega)).mp h1
set_option maxHeartbeats 2000000 in
set_option maxRecDepth 100000 in
theorem c_St_has (l : Launch) (cap n : Nat) (keys : Nat → Int64) (dp ln mk pt sl : Nat → Int32) (mark : Int32) (x : Int32) : Con l y_St_has M_St_has 0 0 [.ref 0, .int x] (stH cap keys dp ln mk pt sl (nI n) mark) 7 0 0 0 (fun r h' => r = some (.int (if x < 0 then 0 else if nI n ≤ x then 0 else 1)) ∧ h' = stH cap keys dp ln mk pt sl (nI n) mark) := by
  refine Con.ent ok_St_has (by decide +kernel) rfl ?_
  intro pA eA sA mA argsA belowA methA cA GA μA
  refine aw_go 1 1 [some (.ref 0), some (.int x)] [.int x] (stH cap keys dp ln mk pt sl (nI n) mark) rfl ?_
  refine aw_if_lt rfl (fun h1 => ?_) (fun h1 => ?_)
  · refine aw_go 1 17 [some (.ref 0), some (.int x)] [.int 0] (stH cap keys dp ln mk pt sl (nI n) mark) rfl ?_
    exact aw_iret rfl (by decide) rfl ⟨by rw [if_pos h1], rfl⟩ rfl (Nat.le_refl _) (Nat.le_refl _) -- [.int 0] (stH cap keys dp ln mk pt sl (nI n) mark)
  · refine aw_go 3 9 [some (.ref 0), some (.int x)] [.int (nI n), .int x] (stH cap keys dp ln mk pt sl (nI n) mark) rfl ?_
    refine aw_cmp_ge rfl (fun h9 => ?_) (fun h9 => ?_)
    · refine aw_go 1 17 [some (.ref 0), some (.int x)] [.int 0] (stH cap keys dp ln mk pt sl (nI n) mark) rfl ?_
      exact aw_iret rfl (by decide) rfl ⟨by rw [if_neg h1, if_pos h9], rfl⟩ rfl (Nat.le_refl _) (Nat.le_refl _) -- [.int 0] (stH cap keys dp ln mk pt sl (nI n) mark)
    · refine aw_go 2 17 [some (.ref 0), some (.int x)] [.int 1] (stH cap keys dp ln mk pt sl (nI n) mark) rfl ?_
      exact aw_iret rfl (by decide) rfl ⟨by rw [if_neg h1, if_neg h9], rfl⟩ rfl (Nat.le_refl _) (Nat.le_refl _) -- [.int 1] (stH cap keys dp ln mk pt sl (nI n) mark)
theorem c_St_has1 (l : Launch) (cap n : Nat) (keys : Nat → Int64) (dp ln mk pt sl : Nat → Int32) (mark : Int32) (i : Nat) (hn : n < 2 ^ 31) (hi : i < n) : Con l y_St_has M_St_has 0 0 [.ref 0, .int (nI i)] (stH cap keys dp ln mk pt sl (nI n) mark) 7 0 0 0 (fun r h' => r = some (.int 1) ∧ h' = stH cap keys dp ln mk pt sl (nI n) mark) := by
  have h := c_St_has l cap n keys dp ln mk pt sl mark (nI i)
  rw [if_neg (nI_pos (by omega)), if_neg (nI_ge hi hn)] at h
  exact h
set_option maxHeartbeats 2000000 in
set_option maxRecDepth 100000 in
theorem c_St_kindOf (l : Launch) (cap n : Nat) (keys : Nat → Int64) (dp ln mk pt sl : Nat → Int32) (mark : Int32) (kd vl : Nat → Nat) (hk : st_k cap n keys kd vl) (i : Nat) (hi : i < n) : Con l y_St_kindOf M_St_kindOf 1 21 [.ref 0, .int (nI i)] (stH cap keys dp ln mk pt sl (nI n) mark) 7 0 0 0 (fun r h' => r = some (.int (nI (kd i))) ∧ h' = stH cap keys dp ln mk pt sl (nI n) mark) := by
  refine Con.ent ok_St_kindOf (by decide +kernel) rfl ?_
  intro pA eA sA mA argsA belowA methA cA GA μA
  refine aw_go 2 2 [some (.ref 0), some (.int (nI i))] [.int (nI i), .ref 0] (stH cap keys dp ln mk pt sl (nI n) mark) rfl ?_
  refine aw_cV [0, 1, 2, 3, 4, 5, 6] (c_St_has1 l cap n keys dp ln mk pt sl mark i (by have := hk.1; have := hk.2.1; omega) hi) rfl cw_St_76 rfl rfl rfl rfl rfl rfl (Nat.le_refl _) (Nat.le_refl _) (fun r h' hp => ?_)
  obtain ⟨rfl, rfl⟩ := hp
  refine aw_go 0 5 [some (.ref 0), some (.int (nI i))] [.int 1] (stH cap keys dp ln mk pt sl (nI n) mark) rfl ?_
  refine aw_if_eq rfl (fun h5 => absurd h5 (by decide)) (fun h5 => ?_)
  refine aw_go 3 13 [some (.ref 0), some (.int (nI i))] [.int (nI i), .ref 1] (stH cap keys dp ln mk pt sl (nI n) mark) rfl ?_
  refine aw_laldN rfl rfl ⟨by have := hk.1; omega, by have := hk.2.1; omega⟩ ?_
  refine aw_go 4 23 [some (.ref 0), some (.int (nI i))] [.int (Int64.toInt32 ((keys i) &&& 3))] (stH cap keys dp ln mk pt sl (nI n) mark) rfl ?_
  exact aw_iret rfl rfl rfl ⟨by rw [(hk.2.2 i hi).1, lg_m3 (hk.2.2 i hi).2.2 (hk.2.2 i hi).2.1, lN_i], rfl⟩ rfl (Nat.le_refl _) (Nat.le_refl _) -- [.int (Int64.toInt32 ((keys i) &&& 3))] (stH cap keys dp ln mk pt sl (nI n) mark)
set_option maxHeartbeats 2000000 in
set_option maxRecDepth 100000 in
theorem c_St_valueOf (l : Launch) (cap n : Nat) (keys : Nat → Int64) (dp ln mk pt sl : Nat → Int32) (mark : Int32) (kd vl : Nat → Nat) (hk : st_k cap n keys kd vl) (i : Nat) (hi : i < n) : Con l y_St_valueOf M_St_valueOf 1 21 [.ref 0, .int (nI i)] (stH cap keys dp ln mk pt sl (nI n) mark) 7 0 0 0 (fun r h' => r = some (.long (lN (vl i))) ∧ h' = stH cap keys dp ln mk pt sl (nI n) mark) := by
  refine Con.ent ok_St_valueOf (by decide +kernel) rfl ?_
  intro pA eA sA mA argsA belowA methA cA GA μA
  refine aw_go 2 2 [some (.ref 0), some (.int (nI i))] [.int (nI i), .ref 0] (stH cap keys dp ln mk pt sl (nI n) mark) rfl ?_
  refine aw_cV [0, 1, 2, 3, 4, 5, 6] (c_St_has1 l cap n keys dp ln mk pt sl mark i (by have := hk.1; have := hk.2.1; omega) hi) rfl cw_St_76 rfl rfl rfl rfl rfl rfl (Nat.le_refl _) (Nat.le_refl _) (fun r h' hp => ?_)
  obtain ⟨rfl, rfl⟩ := hp
  refine aw_go 0 5 [some (.ref 0), some (.int (nI i))] [.int 1] (stH cap keys dp ln mk pt sl (nI n) mark) rfl ?_
  refine aw_if_eq rfl (fun h5 => absurd h5 (by decide)) (fun h5 => ?_)
  refine aw_go 3 13 [some (.ref 0), some (.int (nI i))] [.int (nI i), .ref 1] (stH cap keys dp ln mk pt sl (nI n) mark) rfl ?_
  refine aw_laldN rfl rfl ⟨by have := hk.1; omega, by have := hk.2.1; omega⟩ ?_
  refine aw_go 3 20 [some (.ref 0), some (.int (nI i))] [.long (Int64.toUInt64 (keys i) >>> ((Int32.toInt64 2).toUInt64 &&& Int64.toUInt64 63)).toInt64] (stH cap keys dp ln mk pt sl (nI n) mark) rfl ?_
  exact aw_lret rfl rfl ⟨by rw [(hk.2.2 i hi).1, lg_s2 (hk.2.2 i hi).2.2 (hk.2.2 i hi).2.1], rfl⟩ rfl (Nat.le_refl _) (Nat.le_refl _) -- [.long (Int64.toUInt64 (keys i) >>> ((Int32.toInt64 2).toUInt64 &&& Int64.toUInt64 63)).toInt64] (stH cap keys dp ln mk pt sl (nI n) mark)
set_option maxHeartbeats 2000000 in
set_option maxRecDepth 100000 in
theorem c_St_depthOf (l : Launch) (cap n : Nat) (keys : Nat → Int64) (dp ln mk pt sl : Nat → Int32) (mark : Int32) (kd vl : Nat → Nat) (hk : st_k cap n keys kd vl) (i : Nat) (hi : i < n) : Con l y_St_depthOf M_St_depthOf 1 21 [.ref 0, .int (nI i)] (stH cap keys dp ln mk pt sl (nI n) mark) 7 0 0 0 (fun r h' => r = some (.int (dp i)) ∧ h' = stH cap keys dp ln mk pt sl (nI n) mark) := by
  refine Con.ent ok_St_depthOf (by decide +kernel) rfl ?_
  intro pA eA sA mA argsA belowA methA cA GA μA
  refine aw_go 2 2 [some (.ref 0), some (.int (nI i))] [.int (nI i), .ref 0] (stH cap keys dp ln mk pt sl (nI n) mark) rfl ?_
  refine aw_cV [0, 1, 2, 3, 4, 5, 6] (c_St_has1 l cap n keys dp ln mk pt sl mark i (by have := hk.1; have := hk.2.1; omega) hi) rfl cw_St_76 rfl rfl rfl rfl rfl rfl (Nat.le_refl _) (Nat.le_refl _) (fun r h' hp => ?_)
  obtain ⟨rfl, rfl⟩ := hp
  refine aw_go 0 5 [some (.ref 0), some (.int (nI i))] [.int 1] (stH cap keys dp ln mk pt sl (nI n) mark) rfl ?_
  refine aw_if_eq rfl (fun h5 => absurd h5 (by decide)) (fun h5 => ?_)
  refine aw_go 3 13 [some (.ref 0), some (.int (nI i))] [.int (nI i), .ref 2] (stH cap keys dp ln mk pt sl (nI n) mark) rfl ?_
  refine aw_ialdN rfl rfl ⟨by have := hk.1; omega, by have := hk.2.1; omega⟩ ?_
  refine aw_go 1 18 [some (.ref 0), some (.int (nI i))] [.int (dp i)] (stH cap keys dp ln mk pt sl (nI n) mark) rfl ?_
  exact aw_iret rfl rfl rfl ⟨rfl, rfl⟩ rfl (Nat.le_refl _) (Nat.le_refl _) -- [.int (dp i)] (stH cap keys dp ln mk pt sl (nI n) mark)
set_option maxHeartbeats 2000000 in
set_option maxRecDepth 100000 in
theorem c_St_lengthOf (l : Launch) (cap n : Nat) (keys : Nat → Int64) (dp ln mk pt sl : Nat → Int32) (mark : Int32) (kd vl : Nat → Nat) (hk : st_k cap n keys kd vl) (i : Nat) (hi : i < n) : Con l y_St_lengthOf M_St_lengthOf 1 21 [.ref 0, .int (nI i)] (stH cap keys dp ln mk pt sl (nI n) mark) 7 0 0 0 (fun r h' => r = some (.int (ln i)) ∧ h' = stH cap keys dp ln mk pt sl (nI n) mark) := by
  refine Con.ent ok_St_lengthOf (by decide +kernel) rfl ?_
  intro pA eA sA mA argsA belowA methA cA GA μA
  refine aw_go 2 2 [some (.ref 0), some (.int (nI i))] [.int (nI i), .ref 0] (stH cap keys dp ln mk pt sl (nI n) mark) rfl ?_
  refine aw_cV [0, 1, 2, 3, 4, 5, 6] (c_St_has1 l cap n keys dp ln mk pt sl mark i (by have := hk.1; have := hk.2.1; omega) hi) rfl cw_St_76 rfl rfl rfl rfl rfl rfl (Nat.le_refl _) (Nat.le_refl _) (fun r h' hp => ?_)
  obtain ⟨rfl, rfl⟩ := hp
  refine aw_go 0 5 [some (.ref 0), some (.int (nI i))] [.int 1] (stH cap keys dp ln mk pt sl (nI n) mark) rfl ?_
  refine aw_if_eq rfl (fun h5 => absurd h5 (by decide)) (fun h5 => ?_)
  refine aw_go 3 13 [some (.ref 0), some (.int (nI i))] [.int (nI i), .ref 3] (stH cap keys dp ln mk pt sl (nI n) mark) rfl ?_
  refine aw_ialdN rfl rfl ⟨by have := hk.1; omega, by have := hk.2.1; omega⟩ ?_
  refine aw_go 1 18 [some (.ref 0), some (.int (nI i))] [.int (ln i)] (stH cap keys dp ln mk pt sl (nI n) mark) rfl ?_
  exact aw_iret rfl rfl rfl ⟨rfl, rfl⟩ rfl (Nat.le_refl _) (Nat.le_refl _) -- [.int (ln i)] (stH cap keys dp ln mk pt sl (nI n) mark)
set_option maxHeartbeats 2000000 in
set_option maxRecDepth 100000 in
theorem c_St_isPair (l : Launch) (cap n : Nat) (keys : Nat → Int64) (dp ln mk pt sl : Nat → Int32) (mark : Int32) (kd vl : Nat → Nat) (hk : st_k cap n keys kd vl) (i : Nat) (hi : i < n) : Con l y_St_isPair M_St_isPair 1 21 [.ref 0, .int (nI i)] (stH cap keys dp ln mk pt sl (nI n) mark) 7 0 0 0 (fun r h' => r = some (.int (if kd i = 2 then 1 else 0)) ∧ h' = stH cap keys dp ln mk pt sl (nI n) mark) := by
  refine Con.ent ok_St_isPair (by decide +kernel) rfl ?_
  intro pA eA sA mA argsA belowA methA cA GA μA
  refine aw_go 2 2 [some (.ref 0), some (.int (nI i))] [.int (nI i), .ref 0] (stH cap keys dp ln mk pt sl (nI n) mark) rfl ?_
  refine aw_cV [0, 1, 2, 3, 4, 5, 6] (c_St_has1 l cap n keys dp ln mk pt sl mark i (by have := hk.1; have := hk.2.1; omega) hi) rfl cw_St_76 rfl rfl rfl rfl rfl rfl (Nat.le_refl _) (Nat.le_refl _) (fun r h' hp => ?_)
  obtain ⟨rfl, rfl⟩ := hp
  refine aw_go 0 5 [some (.ref 0), some (.int (nI i))] [.int 1] (stH cap keys dp ln mk pt sl (nI n) mark) rfl ?_
  refine aw_if_eq rfl (fun h5 => absurd h5 (by decide)) (fun h5 => ?_)
  refine aw_go 3 13 [some (.ref 0), some (.int (nI i))] [.int (nI i), .ref 1] (stH cap keys dp ln mk pt sl (nI n) mark) rfl ?_
  refine aw_laldN rfl rfl ⟨by have := hk.1; omega, by have := hk.2.1; omega⟩ ?_
  refine aw_go 4 22 [some (.ref 0), some (.int (nI i))] [.int (lg_cmp ((keys i) &&& 3) 2)] (stH cap keys dp ln mk pt sl (nI n) mark) rfl ?_
  refine aw_if_ne rfl (fun h22 => ?_) (fun h22 => ?_)
  · refine aw_go 1 30 [some (.ref 0), some (.int (nI i))] [.int 0] (stH cap keys dp ln mk pt sl (nI n) mark) rfl ?_
    exact aw_iret rfl (by decide) rfl ⟨by rw [if_neg (fun q => h22 (lg_c0.mpr (by rw [(hk.2.2 i hi).1, lg_m3 (hk.2.2 i hi).2.2 (hk.2.2 i hi).2.1, q]; rfl)))], rfl⟩ rfl (Nat.le_refl _) (Nat.le_refl _) -- [.int 0] (stH cap keys dp ln mk pt sl (nI n) mark)
  · refine aw_go 2 30 [some (.ref 0), some (.int (nI i))] [.int 1] (stH cap keys dp ln mk pt sl (nI n) mark) rfl ?_
    exact aw_iret rfl (by decide) rfl ⟨by rw [if_pos (lg_k2 hk hi h22)], rfl⟩ rfl (Nat.le_refl _) (Nat.le_refl _) -- [.int 1] (stH cap keys dp ln mk pt sl (nI n) mark)
set_option maxHeartbeats 2000000 in
set_option maxRecDepth 100000 in
theorem c_St_firstOf (l : Launch) (cap n : Nat) (keys : Nat → Int64) (dp ln mk pt sl : Nat → Int32) (mark : Int32) (kd vl : Nat → Nat) (hk : st_k cap n keys kd vl) (i : Nat) (hi : i < n) : Con l y_St_firstOf M_St_firstOf 2 42 [.ref 0, .int (nI i)] (stH cap keys dp ln mk pt sl (nI n) mark) 7 0 0 0 (fun r h' => r = some (.int (if kd i = 2 then nI (vl i / 1048576) else 0)) ∧ h' = stH cap keys dp ln mk pt sl (nI n) mark) := by
  refine Con.ent ok_St_firstOf (by decide +kernel) rfl ?_
  intro pA eA sA mA argsA belowA methA cA GA μA
  refine aw_go 2 2 [some (.ref 0), some (.int (nI i))] [.int (nI i), .ref 0] (stH cap keys dp ln mk pt sl (nI n) mark) rfl ?_
  refine aw_cV [0, 1, 2, 3, 4, 5, 6] (c_St_isPair l cap n keys dp ln mk pt sl mark kd vl hk i hi) rfl cw_St_84 rfl rfl rfl rfl rfl rfl (Nat.le_refl _) (Nat.le_refl _) (fun r h' hp => ?_)
  obtain ⟨rfl, rfl⟩ := hp
  refine aw_go 0 5 [some (.ref 0), some (.int (nI i))] [.int (if kd i = 2 then 1 else 0)] (stH cap keys dp ln mk pt sl (nI n) mark) rfl ?_
  refine aw_if_eq rfl (fun h5 => ?_) (fun h5 => ?_)
  · refine aw_go 1 21 [some (.ref 0), some (.int (nI i))] [.int 0] (stH cap keys dp ln mk pt sl (nI n) mark) rfl ?_
    exact aw_iret rfl rfl rfl ⟨by rw [if_neg (fun q => by rw [if_pos q] at h5; exact absurd h5 (by decide))], rfl⟩ rfl (Nat.le_refl _) (Nat.le_refl _) -- [.int 0] (stH cap keys dp ln mk pt sl (nI n) mark)
  · refine aw_go 2 10 [some (.ref 0), some (.int (nI i))] [.int (nI i), .ref 0] (stH cap keys dp ln mk pt sl (nI n) mark) rfl ?_
    refine aw_cV [0, 1, 2, 3, 4, 5, 6] (c_St_valueOf l cap n keys dp ln mk pt sl mark kd vl hk i hi) rfl cw_St_87 rfl rfl rfl rfl rfl rfl (Nat.le_refl _) (Nat.le_refl _) (fun r h' hp => ?_)
    obtain ⟨rfl, rfl⟩ := hp
    refine aw_go 4 21 [some (.ref 0), some (.int (nI i))] [.int (Int64.toInt32 ((Int64.toUInt64 (lN (vl i)) >>> ((Int32.toInt64 20).toUInt64 &&& Int64.toUInt64 63)).toInt64))] (stH cap keys dp ln mk pt sl (nI n) mark) rfl ?_
    exact aw_iret rfl rfl rfl ⟨by rw [if_pos (Classical.byContradiction fun q => h5 (if_neg q)), lg_s20 (by have := (hk.2.2 i hi).2.2; omega), lN_i], rfl⟩ rfl (Nat.le_refl _) (Nat.le_refl _) -- [.int (Int64.toInt32 ((Int64.toUInt64 (lN (vl i)) >>> ((Int32.toInt64 20).toUInt64 &&& Int64.toUInt64 63)).toInt64))] (stH cap keys dp ln mk pt sl (nI n) mark)
set_option maxHeartbeats 2000000 in
set_option maxRecDepth 100000 in
theorem c_St_secondOf (l : Launch) (cap n : Nat) (keys : Nat → Int64) (dp ln mk pt sl : Nat → Int32) (mark : Int32) (kd vl : Nat → Nat) (hk : st_k cap n keys kd vl) (i : Nat) (hi : i < n) : Con l y_St_secondOf M_St_secondOf 2 42 [.ref 0, .int (nI i)] (stH cap keys dp ln mk pt sl (nI n) mark) 7 0 0 0 (fun r h' => r = some (.int (if kd i = 2 then nI (vl i % 1048576) else 0)) ∧ h' = stH cap keys dp ln mk pt sl (nI n) mark) := by
  refine Con.ent ok_St_secondOf (by decide +kernel) rfl ?_
  intro pA eA sA mA argsA belowA methA cA GA μA
  refine aw_go 2 2 [some (.ref 0), some (.int (nI i))] [.int (nI i), .ref 0] (stH cap keys dp ln mk pt sl (nI n) mark) rfl ?_
  refine aw_cV [0, 1, 2, 3, 4, 5, 6] (c_St_isPair l cap n keys dp ln mk pt sl mark kd vl hk i hi) rfl cw_St_84 rfl rfl rfl rfl rfl rfl (Nat.le_refl _) (Nat.le_refl _) (fun r h' hp => ?_)
  obtain ⟨rfl, rfl⟩ := hp
  refine aw_go 0 5 [some (.ref 0), some (.int (nI i))] [.int (if kd i = 2 then 1 else 0)] (stH cap keys dp ln mk pt sl (nI n) mark) rfl ?_
  refine aw_if_eq rfl (fun h5 => ?_) (fun h5 => ?_)
  · refine aw_go 1 22 [some (.ref 0), some (.int (nI i))] [.int 0] (stH cap keys dp ln mk pt sl (nI n) mark) rfl ?_
    exact aw_iret rfl rfl rfl ⟨by rw [if_neg (fun q => by rw [if_pos q] at h5; exact absurd h5 (by decide))], rfl⟩ rfl (Nat.le_refl _) (Nat.le_refl _) -- [.int 0] (stH cap keys dp ln mk pt sl (nI n) mark)
  · refine aw_go 2 10 [some (.ref 0), some (.int (nI i))] [.int (nI i), .ref 0] (stH cap keys dp ln mk pt sl (nI n) mark) rfl ?_
    refine aw_cV [0, 1, 2, 3, 4, 5, 6] (c_St_valueOf l cap n keys dp ln mk pt sl mark kd vl hk i hi) rfl cw_St_87 rfl rfl rfl rfl rfl rfl (Nat.le_refl _) (Nat.le_refl _) (fun r h' hp => ?_)
    obtain ⟨rfl, rfl⟩ := hp
    refine aw_go 4 22 [some (.ref 0), some (.int (nI i))] [.int (Int64.toInt32 ((lN (vl i)) &&& 1048575))] (stH cap keys dp ln mk pt sl (nI n) mark) rfl ?_
    exact aw_iret rfl rfl rfl ⟨by rw [if_pos (Classical.byContradiction fun q => h5 (if_neg q)), lg_m20 (by have := (hk.2.2 i hi).2.2; omega), lN_i], rfl⟩ rfl (Nat.le_refl _) (Nat.le_refl _) -- [.int (Int64.toInt32 ((lN (vl i)) &&& 1048575))] (stH cap keys dp ln mk pt sl (nI n) mark)
