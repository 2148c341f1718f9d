/-! Teller: digits -/
/-- how many digits a number has -/
def tl_K (b v : Nat) : Nat → Nat → Nat
  | 0, k => k
  | q + 1, k => if b ^ k ≤ v then tl_K b v q (k + 1) else k
theorem tl_K_stop {b v q k : Nat} (h : ¬ b ^ k ≤ v) : tl_K b v q k = k := by
  cases q with
  | zero => rfl
  | succ q => simp only [tl_K, if_neg h]
theorem tl_K_go {b v k : Nat} (hk : k < 18) (h : b ^ (k + 1) ≤ v) : tl_K b v (18 - k) (k + 1) = tl_K b v (18 - (k + 1)) (k + 1 + 1) := by
  rw [show 18 - k = (18 - (k + 1)) + 1 by omega]
  simp only [tl_K, if_pos h]
theorem tl_K_ge (b v : Nat) : ∀ q k, k ≤ tl_K b v q k := by
  intro q
  induction q with
  | zero => intro k; exact Nat.le_refl _
  | succ q ih =>
    intro k
    simp only [tl_K]
    split
    · have := ih (k + 1); omega
    · omega
theorem tl_K_pos (b v q : Nat) : 1 ≤ tl_K b v q 1 := tl_K_ge b v q 1
theorem tl_K_lo (b v : Nat) : ∀ q k j, k ≤ j → j < tl_K b v q k → b ^ j ≤ v := by
  intro q
  induction q with
  | zero => intro k j h1 h2; simp only [tl_K] at h2; omega
  | succ q ih =>
    intro k j h1 h2
    simp only [tl_K] at h2
    split at h2
    · rename_i hle
      rcases Nat.eq_or_lt_of_le h1 with z | z
      · rw [← z]; exact hle
      · exact ih (k + 1) j z h2
    · omega
theorem tl_K_le {b v j q k : Nat} (hk : k = 1) (hj : j + 1 ≤ tl_K b v q k) : b ^ j ≤ max v 1 := by
  rcases Nat.eq_zero_or_pos j with z | z
  · rw [z, Nat.pow_zero]; omega
  · have := tl_K_lo b v q k j (by omega) hj
    omega
/-- the unit of digit q, from 1 on -/
def un (b : Nat) : Nat → Nat
  | 0 => 0
  | q + 1 => b ^ q
theorem tl_K_le2 {b v j q k : Nat} (hj : j ≤ tl_K b v q k) (hk : k = 1) : un b j ≤ max v 1 := by
  cases j with
  | zero => exact Nat.zero_le _
  | succ j => exact tl_K_le hk hj
theorem lt_of_le2 {a v : Nat} (h : a ≤ max v 1) (hv : v < 4611686018427387904) : a < 2 ^ 63 := by omega
theorem un_K {b K : Nat} (h : 1 ≤ K) : b ^ (K - 1) = un b K := by
  cases K with
  | zero => omega
  | succ K => rfl
theorem un_div {b q : Nat} (hb : 2 ≤ b) : b ^ q / b = un b q := by
  cases q with
  | zero => rw [Nat.pow_zero, Nat.div_eq_of_lt (by omega)]; rfl
  | succ q => rw [Nat.pow_succ, Nat.mul_div_cancel _ (by omega)]; rfl
theorem lc_gt {a b : Nat} (ha : a < 2 ^ 63) (hb : b < 2 ^ 63) : 0 < lg_cmp (lN a) (lN b) ↔ b < a := by
  unfold lg_cmp
  by_cases q : b < a
  · rw [if_pos ((pk_lLT hb ha).mpr q)]
    exact ⟨fun _ => q, fun _ => by decide⟩
  · rw [if_neg (fun z => q ((pk_lLT hb ha).mp z))]
    refine ⟨fun z => ?_, fun z => absurd z q⟩
    split at z <;> exact absurd z (by decide)
theorem un_0 {b q : Nat} (hb : 2 ≤ b) (hu : un b q < 2 ^ 63) (h : lg_cmp (lN (un b q)) 0 ≤ 0) : q = 0 := by
  cases q with
  | zero => rfl
  | succ q =>
    have h1 : un b (q + 1) ≤ 0 := tk_cgt (b := 0) hu (by omega) h
    have h2 : 0 < b ^ q := Nat.pow_pos (by omega)
    simp only [un] at h1
    omega
/-- digits, the highest first -/
def dl (b : Nat) : Nat → Nat → List Nat
  | 0, _ => []
  | q + 1, v => (v / b ^ q % b) :: dl b q v
set_option maxHeartbeats 2000000 in
set_option maxRecDepth 100000 in
theorem c_Te_highestUnit (l : Launch) (v b : Nat) (hv : v < 4611686018427387904) (hb : 2 ≤ b ∧ b ≤ 47) : Con l y_Te_highestUnit M_Te_highestUnit 0 0 [.long (lN v), .int (nI b)] ([] : am_H) 0 0 0 0 (fun r h' => r = some (.long (lN (b ^ (tl_K b v 18 1 - 1)))) ∧ h' = []) := by
  refine Con.ent ok_Te_highestUnit (by decide +kernel) rfl ?_
  intro pA eA sA mA argsA belowA methA cA GA μA
  refine aw_go 4 5 [some (.long (lN v)), none, some (.int (nI b)), some (.long 1), none, some (.int 1)] [] [] rfl ?_
  refine aw_loop (σ := Nat) (fun y => y ≤ 18 ∧ b ^ y ≤ max v 1 ∧ tl_K b v (18 - y) (y + 1) = tl_K b v 18 1) (fun y => 18 - y) (fun y => [some (.long (lN v)), none, some (.int (nI b)), some (.long (lN (b ^ y))), none, some (.int (nI (y + 1)))]) (fun _ => []) (fun _ => ([] : am_H)) ?_ 0 ⟨Nat.zero_le _, by rw [Nat.pow_zero]; omega, rfl⟩
  rintro k ⟨hk, hp, hI⟩ ih
  refine aw_go 2 9 [some (.long (lN v)), none, some (.int (nI b)), some (.long (lN (b ^ k))), none, some (.int (nI (k + 1)))] [.int 19, .int (nI (k + 1))] [] rfl ?_
  refine aw_cmp_ge rfl (fun h9 => ?_) (fun h9 => ?_)
  · refine aw_go 1 37 [some (.long (lN v)), none, some (.int (nI b)), some (.long (lN (b ^ k))), none, some (.int (nI (k + 1)))] [.long (lN (b ^ k))] [] rfl ?_
    exact aw_lret rfl rfl ⟨by rw [← hI, show 18 - k = 0 from (by have h9 : ¬ k + 1 < 19 := (fun z => nI_ge (b := 19) z (by omega) h9); omega)]; rfl, rfl⟩ rfl (Nat.le_refl _) (Nat.le_refl _) -- [.long (lN (b ^ k))] []
  · have hk18 : k < 18 := (by have h8 : ¬ 19 ≤ k + 1 := (fun z => h9 (nI_le (a := 19) z (by omega))); omega)
    refine aw_go 1 13 [some (.long (lN v)), none, some (.int (nI b)), some (.long (lN (b ^ k))), none, some (.int (nI (k + 1)))] [.int (nI b)] [] rfl ?_
    refine aw_if_le rfl (fun h13 => absurd h13 (nI_nle (by omega) (by omega))) (fun h13 => ?_)
    refine aw_go 4 20 [some (.long (lN v)), none, some (.int (nI b)), some (.long (lN (b ^ k))), none, some (.int (nI (k + 1)))] [.long (Int32.toInt64 (nI b)), .long (lN v), .long (lN (b ^ k))] [] rfl ?_
    refine aw_ldiv rfl (fun z => by rw [nI_l (by omega)] at z; have := (pk_lEQ (a := b) (b := 0) (by omega) (by omega)).mp z; omega) ?_
    rw [show lN v / Int32.toInt64 (nI b) = lN (v / b) from (by rw [nI_l (by omega)]; exact pk_lDiv (by omega) (by omega) (by omega))]
    refine aw_go 1 22 [some (.long (lN v)), none, some (.int (nI b)), some (.long (lN (b ^ k))), none, some (.int (nI (k + 1)))] [.int (lg_cmp (lN (b ^ k)) (lN (v / b)))] [] rfl ?_
    refine aw_if_gt rfl (fun h22 => ?_) (fun h22 => ?_)
    · refine aw_go 1 37 [some (.long (lN v)), none, some (.int (nI b)), some (.long (lN (b ^ k))), none, some (.int (nI (k + 1)))] [.long (lN (b ^ k))] [] rfl ?_
      exact aw_lret rfl rfl ⟨by rw [← hI, tl_K_stop (fun z => by have := (lc_gt (by omega) (by have := Nat.div_le_self v b; omega)).mp h22; have h8 : b ^ k ≤ v / b := (Nat.le_div_iff_mul_le (by omega)).mpr (by rw [← Nat.pow_succ]; exact z); omega)]; rfl, rfl⟩ rfl (Nat.le_refl _) (Nat.le_refl _) -- [.long (lN (b ^ k))] []
    · have hle : b ^ (k + 1) ≤ v := (by have h8 := fun z => h22 ((lc_gt (by omega) (by have := Nat.div_le_self v b; omega)).mpr z); rw [Nat.pow_succ]; exact (Nat.le_div_iff_mul_le (by omega)).mp (Nat.not_lt.mp h8))
      refine aw_go 4 29 [some (.long (lN v)), none, some (.int (nI b)), some (.long (lN (b ^ k))), none, some (.int (nI (k + 1)))] [.long ((lN (b ^ k)) * (Int32.toInt64 (nI b)))] [] rfl ?_
      rw [show lN (b ^ k) * Int32.toInt64 (nI b) = lN (b ^ (k + 1)) from (by rw [nI_l (by omega), lN_mul, Nat.pow_succ])]
      refine aw_go 3 5 [some (.long (lN v)), none, some (.int (nI b)), some (.long (lN (b ^ (k + 1)))), none, some (.int ((nI (k + 1)) + 1))] [] [] rfl ?_
      -- LOOP 5: [some (.long (lN v)), none, some (.int (nI b)), some (.long (lN (b ^ (k + 1)))), none, some (.int ((nI (k + 1)) + 1))] [] []
      exact aw_eq (by simp only [nI_succ]) rfl rfl (ih (k + 1) ⟨by omega, by omega, by rw [← hI, tl_K_go (by omega) hle]⟩ (by omega))
set_option maxHeartbeats 2000000 in
set_option maxRecDepth 100000 in
theorem c_Te_tellDigits_0 (l : Launch) (cap n : Nat) (f : Nat → Int32) (acc : List Nat) (hc : cap < 2 ^ 31) (hR : sh_R cap n f acc) (v : Nat) (hv : v < 4611686018427387904) : Con l y_Te_tellDigits M_Te_tellDigits 4 85 [.ref 0, .long (lN v), .ref 2000000] (shH cap (nI n) f) 2 0 0 0 (fun r h' => r = none ∧ ∃ n2 f2, sh_R cap n2 f2 (acc ++ (dl 47 (tl_K 47 v 18 1) v).map (am_ch 0)) ∧ h' = shH cap (nI n2) f2) := by
  refine Con.ent ok_Te_tellDigits (by decide +kernel) rfl ?_
  intro pA eA sA mA argsA belowA methA cA GA μA
  refine aw_go 1 1 [some (.ref 0), some (.long (lN v)), none, some (.ref 2000000), none, none, none] [.ref 2000000] (shH cap (nI n) f) rfl ?_
  refine aw_cT 0 (c_Js_length_0 l) (by decide) rfl cw_Te_81 rfl rfl rfl rfl (Nat.le_refl _) (Nat.le_refl _) (fun r h' hp => ?_)
  obtain ⟨rfl, rfl⟩ := hp
  refine aw_go 3 9 [some (.ref 0), some (.long (lN v)), none, some (.ref 2000000), some (.int 47), none, none] [.int 2, .int 47] (shH cap (nI n) f) rfl ?_
  refine aw_cmp_ge rfl (fun h9 => ?_) (fun h9 => absurd h9 (by decide))
  refine aw_go 2 16 [some (.ref 0), some (.long (lN v)), none, some (.ref 2000000), some (.int 47), none, none] [.int 47, .long (lN v)] (shH cap (nI n) f) rfl ?_
  refine aw_cS [] (c_Te_highestUnit l v 47 hv (by omega)) rfl cw_Te_87 rfl rfl rfl rfl (Nat.le_refl _) (Nat.le_refl _) (fun r h' hp => ?_)
  obtain ⟨rfl, rfl⟩ := hp
  refine aw_go 0 19 [some (.ref 0), some (.long (lN v)), none, some (.ref 2000000), some (.int 47), none, none] [.long (lN (47 ^ ((tl_K 47 v 18 1) - 1)))] (shH cap (nI n) f) rfl ?_
  rw [show 47 ^ ((tl_K 47 v 18 1) - 1) = un 47 (tl_K 47 v 18 1) from un_K (tl_K_pos 47 v 18)]
  refine aw_go 1 21 [some (.ref 0), some (.long (lN v)), none, some (.ref 2000000), some (.int 47), some (.long (lN (un 47 (tl_K 47 v 18 1)))), none] [] (shH cap (nI n) f) rfl ?_
  refine aw_loop (σ := Nat × Nat × (Nat → Int32) × List Nat) (fun y => y.1 ≤ (tl_K 47 v 18 1) ∧ sh_R cap y.2.1 y.2.2.1 y.2.2.2 ∧ y.2.2.2 ++ (dl 47 y.1 v).map (am_ch 0) = acc ++ (dl 47 (tl_K 47 v 18 1) v).map (am_ch 0)) (fun y => y.1) (fun y => [some (.ref 0), some (.long (lN v)), none, some (.ref 2000000), some (.int 47), some (.long (lN (un 47 y.1))), none]) (fun _ => []) (fun y => shH cap (nI y.2.1) y.2.2.1) ?_ ((tl_K 47 v 18 1), n, f, acc) ⟨Nat.le_refl _, hR, rfl⟩
  rintro ⟨q, n', f', acc'⟩ ⟨hq, hR', hI⟩ ih
  dsimp only at hq hR' hI ih ⊢
  refine aw_go 3 25 [some (.ref 0), some (.long (lN v)), none, some (.ref 2000000), some (.int 47), some (.long (lN (un 47 q))), none] [.int (lg_cmp (lN (un 47 q)) 0)] (shH cap (nI n') f') rfl ?_
  refine aw_if_le rfl (fun h25 => ?_) (fun h25 => ?_)
  · have hq0 : q = 0 := un_0 (by omega) (lt_of_le2 (tl_K_le2 (b := 47) (v := v) (q := 18) (k := 1) hq (by omega)) hv) h25
    exact aw_vret rfl rfl ⟨rfl, n', f', by rw [← hI, hq0]; exact (by rw [show (dl 47 0 v).map (am_ch 0) = [] from rfl, List.append_nil]; exact hR'), rfl⟩ rfl (Nat.le_refl _) (Nat.le_refl _) -- [] (shH cap (nI n') f')
  · obtain ⟨q1, rfl⟩ : ∃ z, q = z + 1 := ⟨q - 1, by have h9 : q ≠ 0 := (fun z => h25 (by rw [z]; decide)); omega⟩
    rw [show un 47 (q1 + 1) = 47 ^ q1 from rfl]
    have hpw := tl_K_le (b := 47) (v := v) (j := q1) (q := 18) (k := 1) (by omega) (by omega)
    have hpp : 0 < 47 ^ q1 := Nat.pow_pos (by omega)
    refine aw_go 4 33 [some (.ref 0), some (.long (lN v)), none, some (.ref 2000000), some (.int 47), some (.long (lN (47 ^ q1))), none] [.long (lN (47 ^ q1)), .long (lN v), .ref 2000000, .ref 0] (shH cap (nI n') f') rfl ?_
    refine aw_ldiv rfl (fun z => by have h9 := (pk_lEQ (a := 47 ^ q1) (b := 0) (by omega) (by omega)).mp z; omega) ?_
    rw [show lN v / lN (47 ^ q1) = lN (v / 47 ^ q1) from pk_lDiv (by omega) hpp (by omega)]
    refine aw_go 2 37 [some (.ref 0), some (.long (lN v)), none, some (.ref 2000000), some (.int 47), some (.long (lN (47 ^ q1))), none] [.long (Int32.toInt64 47), .long (lN (v / 47 ^ q1)), .ref 2000000, .ref 0] (shH cap (nI n') f') rfl ?_
    refine aw_lrem rfl (by decide) ?_
    rw [show lN (v / 47 ^ q1) - lN (v / 47 ^ q1) / Int32.toInt64 47 * Int32.toInt64 47 = lN (v / 47 ^ q1 % 47) from pk_lRem (b := 47) (by have := Nat.div_le_self v (47 ^ q1); omega) (by omega) (by omega)]
    refine aw_go 1 39 [some (.ref 0), some (.long (lN v)), none, some (.ref 2000000), some (.int 47), some (.long (lN (47 ^ q1))), none] [.int (Int64.toInt32 (lN (v / 47 ^ q1 % 47))), .ref 2000000, .ref 0] (shH cap (nI n') f') rfl ?_
    rw [lN_i]
    refine aw_cT 0 (c_Js_charAt_0 l (v / 47 ^ q1 % 47) (Nat.mod_lt _ (by omega))) (by decide) rfl cw_Te_91 rfl rfl rfl rfl (Nat.le_refl _) (Nat.le_refl _) (fun r h' hp => ?_)
    obtain ⟨rfl, rfl⟩ := hp
    refine aw_go 0 42 [some (.ref 0), some (.long (lN v)), none, some (.ref 2000000), some (.int 47), some (.long (lN (47 ^ q1))), none] [.int (nI (am_ch 0 (v / 47 ^ q1 % 47))), .ref 0] (shH cap (nI n') f') rfl ?_
    refine aw_cV [0, 1] (c_Sh_ad l cap n' f' acc' (am_ch 0 (v / 47 ^ q1 % 47)) hc hR' (by have := am_ch_lt 0 (by omega) (v / 47 ^ q1 % 47) (Nat.mod_lt _ (by decide)); omega)) rfl cw_Te_42 rfl rfl rfl rfl rfl rfl (Nat.le_refl _) (Nat.le_refl _) (fun r h' hp => ?_)
    obtain ⟨rfl, n2, f2, hR2, rfl⟩ := hp
    refine aw_go 3 50 [some (.ref 0), some (.long (lN v)), none, some (.ref 2000000), some (.int 47), some (.long (lN (47 ^ q1))), none] [.long (Int32.toInt64 47), .long (lN (47 ^ q1))] (shH cap (nI n2) f2) rfl ?_
    refine aw_ldiv rfl (by decide) ?_
    rw [show lN (47 ^ q1) / Int32.toInt64 47 = lN (un 47 q1) from (by rw [← un_div (by omega : 2 ≤ 47)]; exact pk_lDiv (b := 47) (by omega) (by omega) (by omega))]
    refine aw_go 2 21 [some (.ref 0), some (.long (lN v)), none, some (.ref 2000000), some (.int 47), some (.long (lN (un 47 q1))), none] [] (shH cap (nI n2) f2) rfl ?_
    -- LOOP 21: [some (.ref 0), some (.long (lN v)), none, some (.ref 2000000), some (.int 47), some (.long (lN (un 47 q1))), none] [] (shH cap (nI n2) f2)
    exact aw_mask [true, true, true, true, true, true, false] (aw_eq rfl rfl rfl (ih (q1, n2, f2, acc' ++ [am_ch 0 (v / 47 ^ q1 % 47)]) ⟨by show q1 ≤ _; omega, hR2, by show _ ++ _ ++ _ = _; rw [← hI, List.append_assoc]; rfl⟩ (by show q1 < q1 + 1; omega)))
set_option maxHeartbeats 2000000 in
set_option maxRecDepth 100000 in
theorem c_Te_tellDigits_1 (l : Launch) (cap n : Nat) (f : Nat → Int32) (acc : List Nat) (hc : cap < 2 ^ 31) (hR : sh_R cap n f acc) (v : Nat) (hv : v < 4611686018427387904) : Con l y_Te_tellDigits M_Te_tellDigits 4 85 [.ref 0, .long (lN v), .ref 2000001] (shH cap (nI n) f) 2 0 0 0 (fun r h' => r = none ∧ ∃ n2 f2, sh_R cap n2 f2 (acc ++ (dl 10 (tl_K 10 v 18 1) v).map (am_ch 1)) ∧ h' = shH cap (nI n2) f2) := by
  refine Con.ent ok_Te_tellDigits (by decide +kernel) rfl ?_
  intro pA eA sA mA argsA belowA methA cA GA μA
  refine aw_go 1 1 [some (.ref 0), some (.long (lN v)), none, some (.ref 2000001), none, none, none] [.ref 2000001] (shH cap (nI n) f) rfl ?_
  refine aw_cT 1 (c_Js_length_1 l) (by decide) rfl cw_Te_81 rfl rfl rfl rfl (Nat.le_refl _) (Nat.le_refl _) (fun r h' hp => ?_)
  obtain ⟨rfl, rfl⟩ := hp
  refine aw_go 3 9 [some (.ref 0), some (.long (lN v)), none, some (.ref 2000001), some (.int 10), none, none] [.int 2, .int 10] (shH cap (nI n) f) rfl ?_
  refine aw_cmp_ge rfl (fun h9 => ?_) (fun h9 => absurd h9 (by decide))
  refine aw_go 2 16 [some (.ref 0), some (.long (lN v)), none, some (.ref 2000001), some (.int 10), none, none] [.int 10, .long (lN v)] (shH cap (nI n) f) rfl ?_
  refine aw_cS [] (c_Te_highestUnit l v 10 hv (by omega)) rfl cw_Te_87 rfl rfl rfl rfl (Nat.le_refl _) (Nat.le_refl _) (fun r h' hp => ?_)
  obtain ⟨rfl, rfl⟩ := hp
  refine aw_go 0 19 [some (.ref 0), some (.long (lN v)), none, some (.ref 2000001), some (.int 10), none, none] [.long (lN (10 ^ ((tl_K 10 v 18 1) - 1)))] (shH cap (nI n) f) rfl ?_
  rw [show 10 ^ ((tl_K 10 v 18 1) - 1) = un 10 (tl_K 10 v 18 1) from un_K (tl_K_pos 10 v 18)]
  refine aw_go 1 21 [some (.ref 0), some (.long (lN v)), none, some (.ref 2000001), some (.int 10), some (.long (lN (un 10 (tl_K 10 v 18 1)))), none] [] (shH cap (nI n) f) rfl ?_
  refine aw_loop (σ := Nat × Nat × (Nat → Int32) × List Nat) (fun y => y.1 ≤ (tl_K 10 v 18 1) ∧ sh_R cap y.2.1 y.2.2.1 y.2.2.2 ∧ y.2.2.2 ++ (dl 10 y.1 v).map (am_ch 1) = acc ++ (dl 10 (tl_K 10 v 18 1) v).map (am_ch 1)) (fun y => y.1) (fun y => [some (.ref 0), some (.long (lN v)), none, some (.ref 2000001), some (.int 10), some (.long (lN (un 10 y.1))), none]) (fun _ => []) (fun y => shH cap (nI y.2.1) y.2.2.1) ?_ ((tl_K 10 v 18 1), n, f, acc) ⟨Nat.le_refl _, hR, rfl⟩
  rintro ⟨q, n', f', acc'⟩ ⟨hq, hR', hI⟩ ih
  dsimp only at hq hR' hI ih ⊢
  refine aw_go 3 25 [some (.ref 0), some (.long (lN v)), none, some (.ref 2000001), some (.int 10), some (.long (lN (un 10 q))), none] [.int (lg_cmp (lN (un 10 q)) 0)] (shH cap (nI n') f') rfl ?_
  refine aw_if_le rfl (fun h25 => ?_) (fun h25 => ?_)
  · have hq0 : q = 0 := un_0 (by omega) (lt_of_le2 (tl_K_le2 (b := 10) (v := v) (q := 18) (k := 1) hq (by omega)) hv) h25
    exact aw_vret rfl rfl ⟨rfl, n', f', by rw [← hI, hq0]; exact (by rw [show (dl 10 0 v).map (am_ch 1) = [] from rfl, List.append_nil]; exact hR'), rfl⟩ rfl (Nat.le_refl _) (Nat.le_refl _) -- [] (shH cap (nI n') f')
  · obtain ⟨q1, rfl⟩ : ∃ z, q = z + 1 := ⟨q - 1, by have h9 : q ≠ 0 := (fun z => h25 (by rw [z]; decide)); omega⟩
    rw [show un 10 (q1 + 1) = 10 ^ q1 from rfl]
    have hpw := tl_K_le (b := 10) (v := v) (j := q1) (q := 18) (k := 1) (by omega) (by omega)
    have hpp : 0 < 10 ^ q1 := Nat.pow_pos (by omega)
    refine aw_go 4 33 [some (.ref 0), some (.long (lN v)), none, some (.ref 2000001), some (.int 10), some (.long (lN (10 ^ q1))), none] [.long (lN (10 ^ q1)), .long (lN v), .ref 2000001, .ref 0] (shH cap (nI n') f') rfl ?_
    refine aw_ldiv rfl (fun z => by have h9 := (pk_lEQ (a := 10 ^ q1) (b := 0) (by omega) (by omega)).mp z; omega) ?_
    rw [show lN v / lN (10 ^ q1) = lN (v / 10 ^ q1) from pk_lDiv (by omega) hpp (by omega)]
    refine aw_go 2 37 [some (.ref 0), some (.long (lN v)), none, some (.ref 2000001), some (.int 10), some (.long (lN (10 ^ q1))), none] [.long (Int32.toInt64 10), .long (lN (v / 10 ^ q1)), .ref 2000001, .ref 0] (shH cap (nI n') f') rfl ?_
    refine aw_lrem rfl (by decide) ?_
    rw [show lN (v / 10 ^ q1) - lN (v / 10 ^ q1) / Int32.toInt64 10 * Int32.toInt64 10 = lN (v / 10 ^ q1 % 10) from pk_lRem (b := 10) (by have := Nat.div_le_self v (10 ^ q1); omega) (by omega) (by omega)]
    refine aw_go 1 39 [some (.ref 0), some (.long (lN v)), none, some (.ref 2000001), some (.int 10), some (.long (lN (10 ^ q1))), none] [.int (Int64.toInt32 (lN (v / 10 ^ q1 % 10))), .ref 2000001, .ref 0] (shH cap (nI n') f') rfl ?_
    rw [lN_i]
    refine aw_cT 1 (c_Js_charAt_1 l (v / 10 ^ q1 % 10) (Nat.mod_lt _ (by omega))) (by decide) rfl cw_Te_91 rfl rfl rfl rfl (Nat.le_refl _) (Nat.le_refl _) (fun r h' hp => ?_)
    obtain ⟨rfl, rfl⟩ := hp
    refine aw_go 0 42 [some (.ref 0), some (.long (lN v)), none, some (.ref 2000001), some (.int 10), some (.long (lN (10 ^ q1))), none] [.int (nI (am_ch 1 (v / 10 ^ q1 % 10))), .ref 0] (shH cap (nI n') f') rfl ?_
    refine aw_cV [0, 1] (c_Sh_ad l cap n' f' acc' (am_ch 1 (v / 10 ^ q1 % 10)) hc hR' (by have := am_ch_lt 1 (by omega) (v / 10 ^ q1 % 10) (Nat.mod_lt _ (by decide)); omega)) rfl cw_Te_42 rfl rfl rfl rfl rfl rfl (Nat.le_refl _) (Nat.le_refl _) (fun r h' hp => ?_)
    obtain ⟨rfl, n2, f2, hR2, rfl⟩ := hp
    refine aw_go 3 50 [some (.ref 0), some (.long (lN v)), none, some (.ref 2000001), some (.int 10), some (.long (lN (10 ^ q1))), none] [.long (Int32.toInt64 10), .long (lN (10 ^ q1))] (shH cap (nI n2) f2) rfl ?_
    refine aw_ldiv rfl (by decide) ?_
    rw [show lN (10 ^ q1) / Int32.toInt64 10 = lN (un 10 q1) from (by rw [← un_div (by omega : 2 ≤ 10)]; exact pk_lDiv (b := 10) (by omega) (by omega) (by omega))]
    refine aw_go 2 21 [some (.ref 0), some (.long (lN v)), none, some (.ref 2000001), some (.int 10), some (.long (lN (un 10 q1))), none] [] (shH cap (nI n2) f2) rfl ?_
    -- LOOP 21: [some (.ref 0), some (.long (lN v)), none, some (.ref 2000001), some (.int 10), some (.long (lN (un 10 q1))), none] [] (shH cap (nI n2) f2)
    exact aw_mask [true, true, true, true, true, true, false] (aw_eq rfl rfl rfl (ih (q1, n2, f2, acc' ++ [am_ch 1 (v / 10 ^ q1 % 10)]) ⟨by show q1 ≤ _; omega, hR2, by show _ ++ _ ++ _ = _; rw [← hI, List.append_assoc]; rfl⟩ (by show q1 < q1 + 1; omega)))
