/-! Text -/
theorem s_u : ∀ n, n < 32 → (((nI n).toUInt32 &&& Int32.toUInt32 31).toBitVec % 32).toNat = n := by decide +kernel
def txH (f wa : Nat → Int32) (len : Int32) : am_H := [.inr (5, [.ref 1, .ref 2, .int len]), .inl (2, 3000, .inl f), .inl (0, 5, .inl wa)]
/-- a byte that waits -/
def x_wb (wa : Nat → Int32) (k : Nat) : Nat := (wa (k / 4)).toBitVec.toNat / 2 ^ (24 - 8 * (k % 4)) % 256
theorem x_wb_lt (wa : Nat → Int32) (k : Nat) : x_wb wa k < 256 := Nat.mod_lt _ (by omega)
theorem tx_vc {z : Nat} (h : z < 256) : vp_nar .char (nI z) = nI z := by
  have := (pk_charN (q := z) (by omega)).1
  unfold vp_nar
  rw [this]
theorem tx_nar {x : Int32} (h : ∃ z, z < 256 ∧ x = nI z) : narrow .char (.int x) = .int x := by
  obtain ⟨z, hz, rfl⟩ := h
  exact (pk_charN (q := z) (by omega)).1
theorem x_wb_eq {wa : Nat → Int32} {k : Nat} (hk : k < 20) : (Int32.toUInt32 ((Int32.toUInt32 (wa (k / 4)) >>> (Int32.toUInt32 (24 - (8 * ((nI k) - (nI k) / 4 * 4))) &&& Int32.toUInt32 31)).toInt32 &&& 255) % 65536).toInt32 = nI (x_wb wa k) := by
  have h1 : nI k - nI k / 4 * 4 = nI (k % 4) := pk_rem (d := 4) (by omega) (by omega) (by omega)
  have h2 : (24 : Int32) - 8 * nI (k % 4) = nI (24 - 8 * (k % 4)) := by
    rw [show (8 : Int32) * nI (k % 4) = nI (8 * (k % 4)) from pk_mul 8 _]
    exact pk_sub (a := 24) (by omega)
  rw [h1, h2, pk_and _ (m := 255) 8 (by decide), pk_ushr _ _ (24 - 8 * (k % 4)) (s_u _ (by omega)), pk_char, pk_tn (by omega)]
  unfold x_wb
  congr 1
  omega
theorem tx_in {L : Nat} {x : Int32} (hL : L ≤ 3000) (h1 : ¬ x < 0) (h7 : ¬ 20 < x) (h19 : x ≤ 3000 - nI L) : ∃ q, q ≤ 20 ∧ L + q ≤ 3000 ∧ x = nI q := by
  obtain ⟨q, hq, rfl⟩ := nI_of h1
  rw [show (3000 : Int32) - nI L = nI (3000 - L) from pk_sub (a := 3000) (b := L) hL] at h19
  have a := (nI_leI (by omega) (by omega)).mp h19
  have b : ¬ 20 < q := fun z => h7 (nI_lt (a := 20) z (by omega))
  exact ⟨q, by omega, by omega, rfl⟩
set_option maxHeartbeats 2000000 in
set_option maxRecDepth 100000 in
theorem c_Tx_clear (l : Launch) (f wa : Nat → Int32) (L : Nat) : Con l y_Tx_clear M_Tx_clear 0 0 [.ref 0] (txH f wa (nI L)) 3 0 0 0 (fun r h' => r = none ∧ h' = txH f wa 0) := by
  refine Con.ent ok_Tx_clear (by decide +kernel) rfl ?_
  intro pA eA sA mA argsA belowA methA cA GA μA
  refine aw_go 3 5 [some (.ref 0)] [] (txH f wa 0) rfl ?_
  exact aw_vret rfl rfl ⟨rfl, rfl⟩ rfl (Nat.le_refl _) (Nat.le_refl _) -- [] (txH f wa 0)
set_option maxHeartbeats 2000000 in
set_option maxRecDepth 100000 in
theorem c_Tx_length (l : Launch) (f wa : Nat → Int32) (L : Nat) : Con l y_Tx_length M_Tx_length 0 0 [.ref 0] (txH f wa (nI L)) 3 0 0 0 (fun r h' => r = some (.int (nI L)) ∧ h' = txH f wa (nI L)) := by
  refine Con.ent ok_Tx_length (by decide +kernel) rfl ?_
  intro pA eA sA mA argsA belowA methA cA GA μA
  refine aw_go 2 4 [some (.ref 0)] [.int (nI L)] (txH f wa (nI L)) rfl ?_
  exact aw_iret rfl rfl rfl ⟨rfl, rfl⟩ rfl (Nat.le_refl _) (Nat.le_refl _) -- [.int (nI L)] (txH f wa (nI L))
set_option maxHeartbeats 2000000 in
set_option maxRecDepth 100000 in
theorem c_Tx_signAt (l : Launch) (f wa : Nat → Int32) (L : Nat) (k : Nat) (hk : k < L) (hL : L ≤ 3000) (hf : ∃ z, z < 256 ∧ f k = nI z) : Con l y_Tx_signAt M_Tx_signAt 0 0 [.ref 0, .int (nI k)] (txH f wa (nI L)) 3 0 0 0 (fun r h' => r = some (.int (f k)) ∧ h' = txH f wa (nI L)) := by
  refine Con.ent ok_Tx_signAt (by decide +kernel) rfl ?_
  intro pA eA sA mA argsA belowA methA cA GA μA
  refine aw_go 1 1 [some (.ref 0), some (.int (nI k))] [.int (nI k)] (txH f wa (nI L)) rfl ?_
  refine aw_if_lt rfl (fun h1 => absurd h1 (nI_pos (by omega))) (fun h1 => ?_)
  refine aw_go 3 9 [some (.ref 0), some (.int (nI k))] [.int (nI L), .int (nI k)] (txH f wa (nI L)) rfl ?_
  refine aw_cmp_ge rfl (fun h9 => absurd h9 (nI_ge hk (by omega))) (fun h9 => ?_)
  refine aw_go 3 17 [some (.ref 0), some (.int (nI k))] [.int (nI k), .ref 1] (txH f wa (nI L)) rfl ?_
  refine aw_caldN rfl rfl ⟨by omega, by omega⟩ ?_
  refine aw_go 1 22 [some (.ref 0), some (.int (nI k))] [.int (f k)] (txH f wa (nI L)) rfl ?_
  exact aw_iret rfl (tx_nar hf) rfl ⟨rfl, rfl⟩ rfl (Nat.le_refl _) (Nat.le_refl _) -- [.int (f k)] (txH f wa (nI L))
set_option maxHeartbeats 2000000 in
set_option maxRecDepth 100000 in
theorem c_Tx_await (l : Launch) (f wa : Nat → Int32) (L : Nat) (a b c d e : Int32) : Con l y_Tx_await M_Tx_await 0 0 [.ref 0, .int a, .int b, .int c, .int d, .int e] (txH f wa (nI L)) 3 0 0 0 (fun r h' => r = none ∧ h' = txH f (upd (upd (upd (upd (upd wa 0 a) 1 b) 2 c) 3 d) 4 e) (nI L)) := by
  refine Con.ent ok_Tx_await (by decide +kernel) rfl ?_
  intro pA eA sA mA argsA belowA methA cA GA μA
  refine aw_go 4 6 [some (.ref 0), some (.int a), some (.int b), some (.int c), some (.int d), some (.int e)] [.int a, .int 0, .ref 2] (txH f wa (nI L)) rfl ?_
  refine aw_iastN (i := 0) rfl rfl (by decide) ?_
  refine aw_go 4 13 [some (.ref 0), some (.int a), some (.int b), some (.int c), some (.int d), some (.int e)] [.int b, .int 1, .ref 2] (txH f (upd wa 0 a) (nI L)) rfl ?_
  refine aw_iastN (i := 1) rfl rfl (by decide) ?_
  refine aw_go 4 20 [some (.ref 0), some (.int a), some (.int b), some (.int c), some (.int d), some (.int e)] [.int c, .int 2, .ref 2] (txH f (upd (upd wa 0 a) 1 b) (nI L)) rfl ?_
  refine aw_iastN (i := 2) rfl rfl (by decide) ?_
  refine aw_go 4 28 [some (.ref 0), some (.int a), some (.int b), some (.int c), some (.int d), some (.int e)] [.int d, .int 3, .ref 2] (txH f (upd (upd (upd wa 0 a) 1 b) 2 c) (nI L)) rfl ?_
  refine aw_iastN (i := 3) rfl rfl (by decide) ?_
  refine aw_go 4 36 [some (.ref 0), some (.int a), some (.int b), some (.int c), some (.int d), some (.int e)] [.int e, .int 4, .ref 2] (txH f (upd (upd (upd (upd wa 0 a) 1 b) 2 c) 3 d) (nI L)) rfl ?_
  refine aw_iastN (i := 4) rfl rfl (by decide) ?_
  refine aw_go 0 37 [some (.ref 0), some (.int a), some (.int b), some (.int c), some (.int d), some (.int e)] [] (txH f (upd (upd (upd (upd (upd wa 0 a) 1 b) 2 c) 3 d) 4 e) (nI L)) rfl ?_
  exact aw_vret rfl rfl ⟨rfl, rfl⟩ rfl (Nat.le_refl _) (Nat.le_refl _) -- [] (txH f (upd (upd (upd (upd (upd wa 0 a) 1 b) 2 c) 3 d) 4 e) (nI L))
set_option maxHeartbeats 2000000 in
set_option maxRecDepth 100000 in
theorem c_Tx_waitingByte (l : Launch) (f wa : Nat → Int32) (L : Nat) (k : Nat) (hk : k < 20) : Con l y_Tx_waitingByte M_Tx_waitingByte 0 0 [.ref 0, .int (nI k)] (txH f wa (nI L)) 3 0 0 0 (fun r h' => r = some (.int (nI (x_wb wa k))) ∧ h' = txH f wa (nI L)) := by
  refine Con.ent ok_Tx_waitingByte (by decide +kernel) rfl ?_
  intro pA eA sA mA argsA belowA methA cA GA μA
  refine aw_go 1 1 [some (.ref 0), some (.int (nI k))] [.int (nI k)] (txH f wa (nI L)) rfl ?_
  refine aw_if_lt rfl (fun h1 => absurd h1 (nI_pos (by omega))) (fun h1 => ?_)
  refine aw_go 2 7 [some (.ref 0), some (.int (nI k))] [.int 20, .int (nI k)] (txH f wa (nI L)) rfl ?_
  refine aw_cmp_lt rfl (fun h7 => ?_) (fun h7 => absurd (nI_lt (a := k) (b := 20) hk (by omega)) h7)
  refine aw_go 4 18 [some (.ref 0), some (.int (nI k))] [.int 4, .int (nI k), .ref 2] (txH f wa (nI L)) rfl ?_
  refine aw_idiv rfl (by decide) ?_
  rw [show nI k / 4 = nI (k / 4) from pk_div (d := 4) (by omega) (by omega) (by omega)]
  refine aw_ialdN rfl rfl ⟨by omega, by omega⟩ ?_
  refine aw_go 4 26 [some (.ref 0), some (.int (nI k))] [.int 4, .int (nI k), .int 8, .int 24, .int (wa (k / 4))] (txH f wa (nI L)) rfl ?_
  refine aw_irem rfl (by decide) ?_
  refine aw_go 6 35 [some (.ref 0), some (.int (nI k))] [.int (Int32.toUInt32 (((Int32.toUInt32 (wa (k / 4)) >>> (Int32.toUInt32 (24 - (8 * ((nI k) - (nI k) / 4 * 4))) &&& Int32.toUInt32 31)).toInt32) &&& 255) % 65536).toInt32] (txH f wa (nI L)) rfl ?_
  rw [x_wb_eq (by omega)]
  exact aw_iret rfl (tx_nar ⟨_, x_wb_lt _ _, rfl⟩) rfl ⟨rfl, rfl⟩ rfl (Nat.le_refl _) (Nat.le_refl _) -- [.int (Int32.toUInt32 (((Int32.toUInt32 (wa (k / 4)) >>> (Int32.toUInt32 (24 - (8 * ((nI k) - (nI k) / 4 * 4))) &&& Int32.toUInt32 31)).toInt32) &&& 255) % 65536).toInt32] (txH f wa (nI L))
set_option maxHeartbeats 2000000 in
set_option maxRecDepth 100000 in
theorem c_Tx_append (l : Launch) (f wa : Nat → Int32) (L : Nat) (x : Int32) (hL : L ≤ 3000) : Con l y_Tx_append M_Tx_append 1 23 [.ref 0, .int x] (txH f wa (nI L)) 3 0 0 0 (fun r h' => (¬ (∃ q, q ≤ 20 ∧ L + q ≤ 3000 ∧ x = nI q) ∧ r = some (.int (-1)) ∧ h' = txH f wa (nI L)) ∨ (∃ q f2, q ≤ 20 ∧ L + q ≤ 3000 ∧ x = nI q ∧ r = some (.int (nI (L + q))) ∧ (∀ j, j < L → f2 j = f j) ∧ (∀ j, j < q → f2 (L + j) = nI (x_wb wa j)) ∧ h' = txH f2 (ar_fl 5 wa 0) (nI (L + q)))) := by
  refine Con.ent ok_Tx_append (by decide +kernel) rfl ?_
  intro pA eA sA mA argsA belowA methA cA GA μA
  by_cases hq : ∃ q, q ≤ 20 ∧ L + q ≤ 3000 ∧ x = nI q
  rotate_left
  · refine aw_go 1 1 [some (.ref 0), some (.int x), none] [.int x] (txH f wa (nI L)) rfl ?_
    refine aw_if_lt rfl (fun h1 => ?_) (fun h1 => ?_)
    · refine aw_go 1 23 [some (.ref 0), some (.int x), none] [.int (-1)] (txH f wa (nI L)) rfl ?_
      exact aw_iret rfl rfl rfl (Or.inl ⟨hq, rfl, rfl⟩) rfl (Nat.le_refl _) (Nat.le_refl _)
    · refine aw_go 2 7 [some (.ref 0), some (.int x), none] [.int 20, .int x] (txH f wa (nI L)) rfl ?_
      refine aw_cmp_gt rfl (fun h7 => ?_) (fun h7 => ?_)
      · refine aw_go 1 23 [some (.ref 0), some (.int x), none] [.int (-1)] (txH f wa (nI L)) rfl ?_
        exact aw_iret rfl rfl rfl (Or.inl ⟨hq, rfl, rfl⟩) rfl (Nat.le_refl _) (Nat.le_refl _)
      · refine aw_go 5 19 [some (.ref 0), some (.int x), none] [.int (3000 - nI L), .int x] (txH f wa (nI L)) rfl ?_
        refine aw_cmp_le rfl (fun h19 => absurd (tx_in hL h1 h7 h19) hq) (fun h19 => ?_)
        refine aw_go 1 23 [some (.ref 0), some (.int x), none] [.int (-1)] (txH f wa (nI L)) rfl ?_
        exact aw_iret rfl rfl rfl (Or.inl ⟨hq, rfl, rfl⟩) rfl (Nat.le_refl _) (Nat.le_refl _)
  obtain ⟨q, hq1, hq2, rfl⟩ := hq
  refine aw_go 1 1 [some (.ref 0), some (.int (nI q)), none] [.int (nI q)] (txH f wa (nI L)) rfl ?_
  refine aw_if_lt rfl (fun h1 => absurd h1 (nI_pos (by omega))) (fun h1 => ?_)
  refine aw_go 2 7 [some (.ref 0), some (.int (nI q)), none] [.int 20, .int (nI q)] (txH f wa (nI L)) rfl ?_
  refine aw_cmp_gt rfl (fun h7 => absurd h7 (nI_nlt (b := q) (a := 20) hq1 (by omega))) (fun h7 => ?_)
  refine aw_go 5 19 [some (.ref 0), some (.int (nI q)), none] [.int (3000 - nI L), .int (nI q)] (txH f wa (nI L)) rfl ?_
  refine aw_cmp_le rfl (fun h19 => ?_) (fun h19 => absurd (by rw [show (3000 : Int32) - nI L = nI (3000 - L) from pk_sub (a := 3000) (b := L) hL]; exact nI_le (by omega) (by omega)) h19)
  refine aw_go 2 26 [some (.ref 0), some (.int (nI q)), some (.int (nI 0))] [] (txH f wa (nI L)) rfl ?_
  refine aw_loop (σ := Nat × (Nat → Int32)) (fun y => y.1 ≤ q ∧ (∀ j, j < L → y.2 j = f j) ∧ ∀ j, j < y.1 → y.2 (L + j) = nI (x_wb wa j)) (fun y => q - y.1) (fun y => [some (.ref 0), some (.int (nI q)), some (.int (nI y.1))]) (fun _ => []) (fun y => txH y.2 wa (nI L)) ?_ (0, f) ⟨Nat.zero_le _, fun _ _ => rfl, fun j hj => absurd hj (by simp)⟩
  rintro ⟨k, fk⟩ hI ih
  dsimp only at hI ih ⊢
  refine aw_go 2 28 [some (.ref 0), some (.int (nI q)), some (.int (nI k))] [.int (nI q), .int (nI k)] (txH fk wa (nI L)) rfl ?_
  refine aw_cmp_ge rfl (fun h28 => ?_) (fun h28 => ?_)
  · have hke : k = q := (by have h9 : ¬ k < q := (fun z => nI_ge z (by omega) h28); have := hI.1; omega)
    refine aw_go 9 68 [some (.ref 0), some (.int (nI q)), some (.int (nI k))] [.int 0, .ref 2] (txH fk wa ((nI L) + (nI q))) rfl ?_
    refine aw_cS [2] (c_Ja_fill l 5 wa 0 (by omega)) rfl cw_Tx_27 rfl rfl rfl rfl (Nat.le_refl _) (Nat.le_refl _) (fun r h' hp => ?_)
    obtain ⟨rfl, rfl⟩ := hp
    refine aw_go 2 75 [some (.ref 0), some (.int (nI q)), some (.int (nI k))] [.int ((nI L) + (nI q))] (txH fk (ar_fl 5 wa 0) ((nI L) + (nI q))) rfl ?_
    exact aw_iret rfl rfl rfl (Or.inr ⟨q, fk, hq1, hq2, rfl, by rw [nI_add], hI.2.1, fun j hj => hI.2.2 j (by omega), by rw [nI_add]⟩) rfl (Nat.le_refl _) (Nat.le_refl _) -- [.int ((nI L) + (nI q))] (txH fk (ar_fl 5 wa 0) ((nI L) + (nI q)))
  · have hk : k < q := Nat.not_le.mp fun z => h28 (nI_le z (by omega))
    refine aw_go 8 43 [some (.ref 0), some (.int (nI q)), some (.int (nI k))] [.int (nI k), .ref 0, .int ((nI L) + (nI k)), .ref 1] (txH fk wa (nI L)) rfl ?_
    refine aw_cV [0, 1, 2] (c_Tx_waitingByte l fk wa L k (by omega)) rfl cw_Tx_23 rfl rfl rfl rfl rfl rfl (Nat.le_refl _) (Nat.le_refl _) (fun r h' hp => ?_)
    obtain ⟨rfl, rfl⟩ := hp
    refine aw_go 0 46 [some (.ref 0), some (.int (nI q)), some (.int (nI k))] [.int (nI (x_wb wa k)), .int ((nI L) + (nI k)), .ref 1] (txH fk wa (nI L)) rfl ?_
    rw [nI_add]
    refine aw_castN rfl rfl ⟨by omega, by omega⟩ ?_
    refine aw_go 2 26 [some (.ref 0), some (.int (nI q)), some (.int ((nI k) + 1))] [] (txH (upd fk (L + k) (vp_nar .char (nI (x_wb wa k)))) wa (nI L)) rfl ?_
    -- LOOP 26: [some (.ref 0), some (.int (nI q)), some (.int ((nI k) + 1))] [] (txH (upd fk (L + k) (vp_nar .char (nI (x_wb wa k)))) wa (nI L))
    exact aw_eq (by simp only [nI_succ]) rfl rfl (ih (k + 1, upd fk (L + k) (vp_nar .char (nI (x_wb wa k)))) ⟨by show k + 1 ≤ q; omega, fun j hj => by dsimp only; rw [pk_un (by omega)]; exact hI.2.1 j hj, fun j hj => by
      dsimp only at hj ⊢
      rcases Nat.lt_or_ge j k with h | h
      · rw [pk_un (by omega)]; exact hI.2.2 j h
      · rw [show j = k by have : j < k + 1 := hj; omega, pk_us]; exact tx_vc (x_wb_lt _ _)⟩ (by show q - (k + 1) < q - k; omega))
