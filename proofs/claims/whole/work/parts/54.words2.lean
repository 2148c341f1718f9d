/-! Words: atoms -/
def oL : Option Nat → Int64
  | none => -1
  | some v => lN v
/-- a natural's value -/
def tk_nv (T : Nat → Nat) : Nat → Nat → Nat → Option Nat
  | 0, _, v => some v
  | q + 1, k, v => if v ≤ (4611686018427387903 - (T k - 48)) / 10 then tk_nv T q (k + 1) (10 * v + (T k - 48)) else none
theorem tk_nv_s {T : Nat → Nat} {b k v : Nat} (h : k < b) : tk_nv T (b - k) k v = if v ≤ (4611686018427387903 - (T k - 48)) / 10 then tk_nv T (b - (k + 1)) (k + 1) (10 * v + (T k - 48)) else none := by
  rw [show b - k = (b - (k + 1)) + 1 by omega]
  rfl
def sg_j (ch : Nat) : Nat := (sg_ix ch).getD 0
theorem sg_j_at {ch : Nat} (h : sg_at ch = true) : sg_ix ch = some (sg_j ch) := by
  unfold sg_at at h
  unfold sg_j
  cases hq : sg_ix ch with
  | none => rw [hq] at h; cases h
  | some j => rfl
/-- a symbol's code -/
def tk_sv (T : Nat → Nat) : Nat → Nat → Nat → Nat
  | 0, _, v => v
  | q + 1, k, v => tk_sv T q (k + 1) (v * 47 + sg_j (T k))
theorem tk_sv_s {T : Nat → Nat} {b k v : Nat} (h : k < b) : tk_sv T (b - k) k v = tk_sv T (b - (k + 1)) (k + 1) (v * 47 + sg_j (T k)) := by
  rw [show b - k = (b - (k + 1)) + 1 by omega]
  rfl
theorem tk_cle {a b : Nat} (ha : a < 2 ^ 63) (hb : b < 2 ^ 63) (h : a ≤ b) : lg_cmp (lN a) (lN b) ≤ 0 := by
  unfold lg_cmp
  rw [if_neg (fun z => by have := (pk_lLT hb ha).mp z; omega)]
  split <;> decide
theorem tk_cgt {a b : Nat} (ha : a < 2 ^ 63) (hb : b < 2 ^ 63) (h : lg_cmp (lN a) (lN b) ≤ 0) : a ≤ b := by
  rcases Nat.lt_or_ge b a with q | q
  · unfold lg_cmp at h
    rw [if_pos ((pk_lLT hb ha).mpr q)] at h
    exact absurd h (by decide)
  · exact q
/-- an atom's end, and whether it has digits alone -/
def tk_run (T : Nat → Nat) : Nat → Nat → Bool → Nat × Bool
  | 0, p, b => (p, b)
  | q + 1, p, b => if sg_at (T p) = true then tk_run T q (p + 1) (b && sg_dig (T p)) else (p, b)
theorem tk_run_s {T : Nat → Nat} {L p : Nat} {b : Bool} (h : p < L) : tk_run T (L - p) p b = if sg_at (T p) = true then tk_run T (L - (p + 1)) (p + 1) (b && sg_dig (T p)) else (p, b) := by
  rw [show L - p = (L - (p + 1)) + 1 by omega]
  rfl
theorem tk_run_all (T : Nat → Nat) : ∀ (q p : Nat) (b : Bool) (e : Nat) (c : Bool), tk_run T q p b = (e, c) → p ≤ e ∧ e ≤ p + q ∧ (∀ j, p ≤ j → j < e → sg_at (T j) = true) ∧ (c = true → b = true ∧ ∀ j, p ≤ j → j < e → sg_dig (T j) = true) := by
  intro q
  induction q with
  | zero =>
    intro p b e c h
    cases h
    exact ⟨Nat.le_refl _, Nat.le_refl _, fun j h1 h2 => absurd h2 (by omega), fun h => ⟨h, fun j h1 h2 => absurd h2 (by omega)⟩⟩
  | succ q ih =>
    intro p b e c h
    unfold tk_run at h
    by_cases ha : sg_at (T p) = true
    · rw [if_pos ha] at h
      obtain ⟨h1, h2, h3, h4⟩ := ih _ _ _ _ h
      refine ⟨by omega, by omega, fun j g1 g2 => ?_, fun hc => ?_⟩
      · rcases Nat.lt_or_ge p j with z | z
        · exact h3 j z g2
        · rw [show j = p by omega]; exact ha
      · obtain ⟨k1, k2⟩ := h4 hc
        rw [Bool.and_eq_true] at k1
        refine ⟨k1.1, fun j g1 g2 => ?_⟩
        rcases Nat.lt_or_ge p j with z | z
        · exact k2 j z g2
        · rw [show j = p by omega]; exact k1.2
    · rw [if_neg ha] at h
      cases h
      exact ⟨Nat.le_refl _, by omega, fun j h1 h2 => absurd h2 (by omega), fun h => ⟨h, fun j h1 h2 => absurd h2 (by omega)⟩⟩
theorem tk_run_d {T : Nat → Nat} {q a p : Nat} (h : tk_run T q a true = (p, true)) : ∀ j, a ≤ j → j < p → sg_dig (T j) = true := ((tk_run_all T q a true p true h).2.2.2 rfl).2
theorem tk_run_a {T : Nat → Nat} {q a p : Nat} {c : Bool} (h : tk_run T q a true = (p, c)) : ∀ j, a ≤ j → j < p → sg_at (T j) = true := (tk_run_all T q a true p c h).2.2.1
theorem tk_dg0 {q : Nat} (h : (if sg_dig q = true then (1 : Int32) else 0) = 0) : sg_dig q = false := by
  cases hq : sg_dig q with
  | false => rfl
  | true => rw [if_pos hq] at h; cases h
theorem tk_dg1 {q : Nat} (h : ¬ (if sg_dig q = true then (1 : Int32) else 0) = 0) : sg_dig q = true := Classical.byContradiction fun z => h (if_neg z)
/-- an atom's value as the word has it: -1 where it is too long or too great -/
def tk_av (T : Nat → Nat) (a : Nat) (y : Nat × Bool) : Int64 := if y.2 = true then oL (tk_nv T (y.1 - a) a 0) else if y.1 - a ≤ 11 then lN (tk_sv T (y.1 - a) a 0) else -1
set_option maxHeartbeats 2000000 in
set_option maxRecDepth 100000 in
theorem c_Wd_naturalOf (l : Launch) (f wa : Nat → Int32) (L : Nat) (T : Nat → Nat) (hT : tx_T f T L) (a b : Nat) (hab : a ≤ b) (hbL : b ≤ L) (nx sa kn : Int32) (vu : Int64) (hd : ∀ j, a ≤ j → j < b → sg_dig (T j) = true) : Con l y_Wd_naturalOf M_Wd_naturalOf 1 21 [.ref 0, .int (nI a), .int (nI b)] (wdH nx sa kn vu f wa (nI L)) 4 0 0 0 (fun r h' => r = some (.long (oL (tk_nv T (b - a) a 0))) ∧ h' = wdH nx sa kn vu f wa (nI L)) := by
  refine Con.ent ok_Wd_naturalOf (by decide +kernel) rfl ?_
  intro pA eA sA mA argsA belowA methA cA GA μA
  have hL := hT.1
  refine aw_go 4 5 [some (.ref 0), some (.int (nI a)), some (.int (nI b)), some (.long (lN 0)), none, some (.int (nI a)), none] [] (wdH nx sa kn vu f wa (nI L)) rfl ?_
  refine aw_loop (σ := Nat × Nat) (fun y => a ≤ y.1 ∧ y.1 ≤ b ∧ y.2 ≤ 4611686018427387903 ∧ tk_nv T (b - y.1) y.1 y.2 = tk_nv T (b - a) a 0) (fun y => b - y.1) (fun y => [some (.ref 0), some (.int (nI a)), some (.int (nI b)), some (.long (lN y.2)), none, some (.int (nI y.1)), none]) (fun _ => []) (fun _ => wdH nx sa kn vu f wa (nI L)) ?_ (a, 0) ⟨Nat.le_refl _, hab, by omega, rfl⟩
  rintro ⟨k, v⟩ hI ih
  dsimp only at hI ih ⊢
  refine aw_go 2 8 [some (.ref 0), some (.int (nI a)), some (.int (nI b)), some (.long (lN v)), none, some (.int (nI k)), none] [.int (nI b), .int (nI k)] (wdH nx sa kn vu f wa (nI L)) rfl ?_
  refine aw_cmp_ge rfl (fun h8 => ?_) (fun h8 => ?_)
  · refine aw_go 1 62 [some (.ref 0), some (.int (nI a)), some (.int (nI b)), some (.long (lN v)), none, some (.int (nI k)), none] [.long (lN v)] (wdH nx sa kn vu f wa (nI L)) rfl ?_
    exact aw_lret rfl rfl ⟨by rw [← hI.2.2.2, show b - k = 0 from (by have h9 : ¬ k < b := (fun z => nI_ge z (by omega) h8); omega)]; rfl, rfl⟩ rfl (Nat.le_refl _) (Nat.le_refl _) -- [.long (lN v)] (wdH nx sa kn vu f wa (nI L))
  · have hkb : k < b := Nat.not_le.mp fun z => h8 (nI_le z (by omega))
    have hdk := sg_dig_iff.mp (hd k hI.1 hkb)
    refine aw_go 3 17 [some (.ref 0), some (.int (nI a)), some (.int (nI b)), some (.long (lN v)), none, some (.int (nI k)), none] [.int (nI k), .ref 1] (wdH nx sa kn vu f wa (nI L)) rfl ?_
    refine aw_cV [1, 2, 3] (c_Tx_sg l f wa L T k hT (by omega)) rfl cw_Wd_45 rfl rfl rfl rfl rfl rfl (Nat.le_refl _) (Nat.le_refl _) (fun r h' hp => ?_)
    obtain ⟨rfl, rfl⟩ := hp
    refine aw_go 2 23 [some (.ref 0), some (.int (nI a)), some (.int (nI b)), some (.long (lN v)), none, some (.int (nI k)), none] [.int ((nI (T k)) - 48)] (wdH nx sa kn vu f wa (nI L)) rfl ?_
    rw [show nI (T k) - 48 = nI (T k - 48) from pk_sub (b := 48) hdk.1]
    refine aw_go 7 36 [some (.ref 0), some (.int (nI a)), some (.int (nI b)), some (.long (lN v)), none, some (.int (nI k)), some (.int (nI (T k - 48)))] [.long 10, .long (4611686018427387903 - (Int32.toInt64 (nI (T k - 48)))), .long (lN v)] (wdH nx sa kn vu f wa (nI L)) rfl ?_
    rw [show (4611686018427387903 : Int64) - Int32.toInt64 (nI (T k - 48)) = lN (4611686018427387903 - (T k - 48)) from (by rw [nI_l (by omega)]; exact lN_sub (a := 4611686018427387903) (by omega))]
    refine aw_ldiv rfl (by decide) ?_
    rw [show lN (4611686018427387903 - (T k - 48)) / 10 = lN ((4611686018427387903 - (T k - 48)) / 10) from pk_lDiv (b := 10) (by omega) (by omega) (by omega)]
    refine aw_go 1 38 [some (.ref 0), some (.int (nI a)), some (.int (nI b)), some (.long (lN v)), none, some (.int (nI k)), some (.int (nI (T k - 48)))] [.int (lg_cmp (lN v) (lN ((4611686018427387903 - (T k - 48)) / 10)))] (wdH nx sa kn vu f wa (nI L)) rfl ?_
    refine aw_if_le rfl (fun h38 => ?_) (fun h38 => ?_)
    · refine aw_go 6 54 [some (.ref 0), some (.int (nI a)), some (.int (nI b)), some (.long (lN v)), none, some (.int (nI k)), some (.int (nI (T k - 48)))] [.long ((10 * (lN v)) + (Int32.toInt64 (nI (T k - 48))))] (wdH nx sa kn vu f wa (nI L)) rfl ?_
      rw [show 10 * lN v + Int32.toInt64 (nI (T k - 48)) = lN (10 * v + (T k - 48)) from (by rw [nI_l (by omega), show (10 : Int64) * lN v = lN (10 * v) from lN_mul 10 v, lN_add])]
      refine aw_go 3 5 [some (.ref 0), some (.int (nI a)), some (.int (nI b)), some (.long (lN (10 * v + (T k - 48)))), none, some (.int ((nI k) + 1)), some (.int (nI (T k - 48)))] [] (wdH nx sa kn vu f wa (nI L)) rfl ?_
      -- LOOP 5: [some (.ref 0), some (.int (nI a)), some (.int (nI b)), some (.long (lN (10 * v + (T k - 48)))), none, some (.int ((nI k) + 1)), some (.int (nI (T k - 48)))] [] (wdH nx sa kn vu f wa (nI L))
      exact aw_mask [true, true, true, true, true, true, false] (aw_eq (by simp only [nI_succ]; rfl) rfl rfl (ih (k + 1, 10 * v + (T k - 48)) ⟨by show a ≤ k + 1; omega, by show k + 1 ≤ b; omega, by show 10 * v + (T k - 48) ≤ 4611686018427387903; have := tk_cgt (by omega) (by omega) h38; omega, by rw [← hI.2.2.2, tk_nv_s hkb, if_pos (tk_cgt (by omega) (by omega) h38)]⟩ (by show b - (k + 1) < b - k; omega)))
    · refine aw_go 1 44 [some (.ref 0), some (.int (nI a)), some (.int (nI b)), some (.long (lN v)), none, some (.int (nI k)), some (.int (nI (T k - 48)))] [.long (-1)] (wdH nx sa kn vu f wa (nI L)) rfl ?_
      exact aw_lret rfl rfl ⟨by rw [← hI.2.2.2, tk_nv_s hkb, if_neg (fun z => h38 (tk_cle (by omega) (by omega) z))]; rfl, rfl⟩ rfl (Nat.le_refl _) (Nat.le_refl _) -- [.long (-1)] (wdH nx sa kn vu f wa (nI L))
set_option maxHeartbeats 2000000 in
set_option maxRecDepth 100000 in
theorem c_Wd_symbolOf (l : Launch) (f wa : Nat → Int32) (L : Nat) (T : Nat → Nat) (hT : tx_T f T L) (a b : Nat) (hab : a ≤ b) (hbL : b ≤ L) (nx sa kn : Int32) (vu : Int64) (hd : ∀ j, a ≤ j → j < b → sg_at (T j) = true) : Con l y_Wd_symbolOf M_Wd_symbolOf 5 113 [.ref 0, .int (nI a), .int (nI b)] (wdH nx sa kn vu f wa (nI L)) 4 0 0 0 (fun r h' => r = some (.long (if b - a ≤ 11 then lN (tk_sv T (b - a) a 0) else -1)) ∧ h' = wdH nx sa kn vu f wa (nI L)) := by
  refine Con.ent ok_Wd_symbolOf (by decide +kernel) rfl ?_
  intro pA eA sA mA argsA belowA methA cA GA μA
  have hL := hT.1
  refine aw_go 3 3 [some (.ref 0), some (.int (nI a)), some (.int (nI b)), none, none, none] [.int (nI b - nI a)] (wdH nx sa kn vu f wa (nI L)) rfl ?_
  rw [show nI b - nI a = nI (b - a) from pk_sub hab]
  refine aw_go 1 5 [some (.ref 0), some (.int (nI a)), some (.int (nI b)), none, none, none] [.int 11, .int (nI (b - a))] (wdH nx sa kn vu f wa (nI L)) rfl ?_
  by_cases h11 : b - a ≤ 11
  rotate_left
  · refine aw_cmp_le rfl (fun h5 => absurd ((nI_leI (b := 11) (by omega) (by omega)).mp h5) h11) (fun h5 => ?_)
    refine aw_go 1 11 _ [.long (-1)] (wdH nx sa kn vu f wa (nI L)) rfl ?_
    exact aw_lret rfl rfl ⟨by rw [if_neg h11], rfl⟩ rfl (Nat.le_refl _) (Nat.le_refl _)
  refine aw_cmp_le rfl (fun h5 => ?_) (fun h5 => absurd (nI_le (b := 11) h11 (by omega)) h5)
  refine aw_go 4 17 [some (.ref 0), some (.int (nI a)), some (.int (nI b)), some (.long (lN 0)), none, some (.int (nI a))] [] (wdH nx sa kn vu f wa (nI L)) rfl ?_
  refine aw_loop (σ := Nat × Nat) (fun y => a ≤ y.1 ∧ y.1 ≤ b ∧ tk_sv T (b - y.1) y.1 y.2 = tk_sv T (b - a) a 0) (fun y => b - y.1) (fun y => [some (.ref 0), some (.int (nI a)), some (.int (nI b)), some (.long (lN y.2)), none, some (.int (nI y.1))]) (fun _ => []) (fun _ => wdH nx sa kn vu f wa (nI L)) ?_ (a, 0) ⟨Nat.le_refl _, hab, rfl⟩
  rintro ⟨k, v⟩ hI ih
  dsimp only at hI ih ⊢
  refine aw_go 2 20 [some (.ref 0), some (.int (nI a)), some (.int (nI b)), some (.long (lN v)), none, some (.int (nI k))] [.int (nI b), .int (nI k)] (wdH nx sa kn vu f wa (nI L)) rfl ?_
  refine aw_cmp_ge rfl (fun h20 => ?_) (fun h20 => ?_)
  · refine aw_go 1 44 [some (.ref 0), some (.int (nI a)), some (.int (nI b)), some (.long (lN v)), none, some (.int (nI k))] [.long (lN v)] (wdH nx sa kn vu f wa (nI L)) rfl ?_
    exact aw_lret rfl rfl ⟨by rw [if_pos h11, ← hI.2.2, show b - k = 0 from (by have h9 : ¬ k < b := (fun z => nI_ge z (by omega) h20); omega)]; rfl, rfl⟩ rfl (Nat.le_refl _) (Nat.le_refl _) -- [.long (lN v)] (wdH nx sa kn vu f wa (nI L))
  · have hkb : k < b := Nat.not_le.mp fun z => h20 (nI_le z (by omega))
    refine aw_go 4 30 [some (.ref 0), some (.int (nI a)), some (.int (nI b)), some (.long (lN v)), none, some (.int (nI k))] [.int (nI k), .ref 1, .long (lN v)] (wdH nx sa kn vu f wa (nI L)) rfl ?_
    refine aw_cV [1, 2, 3] (c_Tx_sg l f wa L T k hT (by omega)) rfl cw_Wd_45 rfl rfl rfl rfl rfl rfl (Nat.le_refl _) (Nat.le_refl _) (fun r h' hp => ?_)
    obtain ⟨rfl, rfl⟩ := hp
    refine aw_go 0 33 [some (.ref 0), some (.int (nI a)), some (.int (nI b)), some (.long (lN v)), none, some (.int (nI k))] [.int (nI (T k)), .long (lN v)] (wdH nx sa kn vu f wa (nI L)) rfl ?_
    refine aw_cS [] (c_Sg_withSign l v (T k) (sg_j (T k)) (hT.2 k (by omega)).1 (sg_j_at (hd k hI.1 hkb))) rfl cw_Wd_73 rfl rfl rfl rfl (Nat.le_refl _) (Nat.le_refl _) (fun r h' hp => ?_)
    obtain ⟨rfl, rfl⟩ := hp
    refine aw_go 3 17 [some (.ref 0), some (.int (nI a)), some (.int (nI b)), some (.long (lN (v * 47 + sg_j (T k)))), none, some (.int ((nI k) + 1))] [] (wdH nx sa kn vu f wa (nI L)) rfl ?_
    -- LOOP 17: [some (.ref 0), some (.int (nI a)), some (.int (nI b)), some (.long (lN (v * 47 + sg_j (T k)))), none, some (.int ((nI k) + 1))] [] (wdH nx sa kn vu f wa (nI L))
    exact aw_eq (by simp only [nI_succ]) rfl rfl (ih (k + 1, v * 47 + sg_j (T k)) ⟨by show a ≤ k + 1; omega, by show k + 1 ≤ b; omega, by rw [← hI.2.2, tk_sv_s hkb]⟩ (by show b - (k + 1) < b - k; omega))
set_option maxHeartbeats 2000000 in
set_option maxRecDepth 100000 in
theorem c_Wd_takeAtom (l : Launch) (f wa : Nat → Int32) (L : Nat) (T : Nat → Nat) (hT : tx_T f T L) (a : Nat) (haL : a ≤ L) (kn : Int32) (vu : Int64) : Con l y_Wd_takeAtom M_Wd_takeAtom 6 138 [.ref 0] (wdH (nI a) (nI a) kn vu f wa (nI L)) 4 0 0 0 (fun r h' => r = none ∧ h' = wdH (nI (tk_run T (L - a) a true).1) (nI a) (if (tk_run T (L - a) a true).2 = true then 6 else 7) (tk_av T a (tk_run T (L - a) a true)) f wa (nI L)) := by
  refine Con.ent ok_Wd_takeAtom (by decide +kernel) rfl ?_
  intro pA eA sA mA argsA belowA methA cA GA μA
  have hL := hT.1
  refine aw_go 2 2 [some (.ref 0), some (.int (rb true))] [] (wdH (nI a) (nI a) kn vu f wa (nI L)) rfl ?_
  refine aw_loop (σ := Nat × Bool) (fun y => a ≤ y.1 ∧ y.1 ≤ L ∧ tk_run T (L - y.1) y.1 y.2 = tk_run T (L - a) a true) (fun y => L - y.1) (fun y => [some (.ref 0), some (.int (rb y.2))]) (fun _ => []) (fun y => wdH (nI y.1) (nI a) kn vu f wa (nI L)) ?_ (a, true) ⟨Nat.le_refl _, haL, rfl⟩
  rintro ⟨p, b⟩ hI ih
  dsimp only at hI ih ⊢
  refine aw_go 4 10 [some (.ref 0), some (.int (rb b))] [.ref 1, .int (nI p)] (wdH (nI p) (nI a) kn vu f wa (nI L)) rfl ?_
  refine aw_cV [1, 2, 3] (c_Tx_length l f wa L) rfl cw_Wd_39 rfl rfl rfl rfl rfl rfl (Nat.le_refl _) (Nat.le_refl _) (fun r h' hp => ?_)
  obtain ⟨rfl, rfl⟩ := hp
  refine aw_go 0 13 [some (.ref 0), some (.int (rb b))] [.int (nI L), .int (nI p)] (wdH (nI p) (nI a) kn vu f wa (nI L)) rfl ?_
  refine aw_cmp_ge rfl (fun h13 => ?_) (fun h13 => ?_)
  · have hrun : tk_run T (L - a) a true = (p, b) := by first | exact (by rw [← hI.2.2, show L - p = 0 from (by have h9 : ¬ p < L := (fun z => nI_ge z (by omega) h13); omega)]; rfl) | exact (by rw [← hI.2.2, tk_run_s hp, if_neg (tk_at0 h30)])
    cases b
    · refine aw_go 2 75 [some (.ref 0), some (.int 0)] [.int 0, .ref 0] (wdH (nI p) (nI a) kn vu f wa (nI L)) rfl ?_
      refine aw_if_eq rfl (fun h75 => ?_) (fun h75 => absurd h75 (by decide))
      refine aw_go 4 90 [some (.ref 0), some (.int 0)] [.int 0, .ref 0] (wdH (nI p) (nI a) 7 vu f wa (nI L)) rfl ?_
      refine aw_if_eq rfl (fun h90 => ?_) (fun h90 => absurd h90 (by decide))
      refine aw_go 5 117 [some (.ref 0), some (.int 0)] [.int (nI p), .int (nI a), .ref 0, .ref 0] (wdH (nI p) (nI a) 7 vu f wa (nI L)) rfl ?_
      refine aw_cV [0, 1, 2, 3] (c_Wd_symbolOf l f wa L T hT a p (by omega) (by omega) (nI p) (nI a) 7 vu (tk_run_a hrun)) rfl cw_Wd_62 rfl rfl rfl rfl rfl rfl (Nat.le_refl _) (Nat.le_refl _) (fun r h' hp => ?_)
      obtain ⟨rfl, rfl⟩ := hp
      refine aw_go 1 123 [some (.ref 0), some (.int 0)] [] (wdH (nI p) (nI a) 7 (if p - a ≤ 11 then lN (tk_sv T (p - a) a 0) else -1) f wa (nI L)) rfl ?_
      exact aw_vret rfl rfl ⟨rfl, by rw [hrun]; rfl⟩ rfl (Nat.le_refl _) (Nat.le_refl _) -- [] (wdH (nI p) (nI a) 7 (if p - a ≤ 11 then lN (tk_sv T (p - a) a 0) else -1) f wa (nI L))
    · refine aw_go 2 75 [some (.ref 0), some (.int 1)] [.int 1, .ref 0] (wdH (nI p) (nI a) kn vu f wa (nI L)) rfl ?_
      refine aw_if_eq rfl (fun h75 => absurd h75 (by decide)) (fun h75 => ?_)
      refine aw_go 5 90 [some (.ref 0), some (.int 1)] [.int 1, .ref 0] (wdH (nI p) (nI a) 6 vu f wa (nI L)) rfl ?_
      refine aw_if_eq rfl (fun h90 => absurd h90 (by decide)) (fun h90 => ?_)
      refine aw_go 5 102 [some (.ref 0), some (.int 1)] [.int (nI p), .int (nI a), .ref 0, .ref 0] (wdH (nI p) (nI a) 6 vu f wa (nI L)) rfl ?_
      refine aw_cV [0, 1, 2, 3] (c_Wd_naturalOf l f wa L T hT a p (by omega) (by omega) (nI p) (nI a) 6 vu (tk_run_d hrun)) rfl cw_Wd_58 rfl rfl rfl rfl rfl rfl (Nat.le_refl _) (Nat.le_refl _) (fun r h' hp => ?_)
      obtain ⟨rfl, rfl⟩ := hp
      refine aw_go 2 123 [some (.ref 0), some (.int 1)] [] (wdH (nI p) (nI a) 6 (oL (tk_nv T (p - a) a 0)) f wa (nI L)) rfl ?_
      exact aw_vret rfl rfl ⟨rfl, by rw [hrun]; rfl⟩ rfl (Nat.le_refl _) (Nat.le_refl _) -- [] (wdH (nI p) (nI a) 6 (oL (tk_nv T (p - a) a 0)) f wa (nI L))
  · have hp : p < L := Nat.not_le.mp fun z => h13 (nI_le z (by omega))
    refine aw_go 4 24 [some (.ref 0), some (.int (rb b))] [.int (nI p), .ref 1] (wdH (nI p) (nI a) kn vu f wa (nI L)) rfl ?_
    refine aw_cV [1, 2, 3] (c_Tx_sg l f wa L T p hT hp) rfl cw_Wd_45 rfl rfl rfl rfl rfl rfl (Nat.le_refl _) (Nat.le_refl _) (fun r h' hp => ?_)
    obtain ⟨rfl, rfl⟩ := hp
    refine aw_go 0 27 [some (.ref 0), some (.int (rb b))] [.int (nI (T p))] (wdH (nI p) (nI a) kn vu f wa (nI L)) rfl ?_
    refine aw_cS [] (c_Sg_isOfAtom l (T p) (hT.2 p hp).1) rfl cw_Wd_49 rfl rfl rfl rfl (Nat.le_refl _) (Nat.le_refl _) (fun r h' hp => ?_)
    obtain ⟨rfl, rfl⟩ := hp
    refine aw_go 0 30 [some (.ref 0), some (.int (rb b))] [.int (if sg_at (T p) = true then 1 else 0)] (wdH (nI p) (nI a) kn vu f wa (nI L)) rfl ?_
    refine aw_if_eq rfl (fun h30 => ?_) (fun h30 => ?_)
    · have hrun : tk_run T (L - a) a true = (p, b) := by first | exact (by rw [← hI.2.2, show L - p = 0 from (by have h9 : ¬ p < L := (fun z => nI_ge z (by omega) h13); omega)]; rfl) | exact (by rw [← hI.2.2, tk_run_s hp, if_neg (tk_at0 h30)])
      cases b
      · refine aw_go 2 75 [some (.ref 0), some (.int 0)] [.int 0, .ref 0] (wdH (nI p) (nI a) kn vu f wa (nI L)) rfl ?_
        refine aw_if_eq rfl (fun h75 => ?_) (fun h75 => absurd h75 (by decide))
        refine aw_go 4 90 [some (.ref 0), some (.int 0)] [.int 0, .ref 0] (wdH (nI p) (nI a) 7 vu f wa (nI L)) rfl ?_
        refine aw_if_eq rfl (fun h90 => ?_) (fun h90 => absurd h90 (by decide))
        refine aw_go 5 117 [some (.ref 0), some (.int 0)] [.int (nI p), .int (nI a), .ref 0, .ref 0] (wdH (nI p) (nI a) 7 vu f wa (nI L)) rfl ?_
        refine aw_cV [0, 1, 2, 3] (c_Wd_symbolOf l f wa L T hT a p (by omega) (by omega) (nI p) (nI a) 7 vu (tk_run_a hrun)) rfl cw_Wd_62 rfl rfl rfl rfl rfl rfl (Nat.le_refl _) (Nat.le_refl _) (fun r h' hp => ?_)
        obtain ⟨rfl, rfl⟩ := hp
        refine aw_go 1 123 [some (.ref 0), some (.int 0)] [] (wdH (nI p) (nI a) 7 (if p - a ≤ 11 then lN (tk_sv T (p - a) a 0) else -1) f wa (nI L)) rfl ?_
        exact aw_vret rfl rfl ⟨rfl, by rw [hrun]; rfl⟩ rfl (Nat.le_refl _) (Nat.le_refl _) -- [] (wdH (nI p) (nI a) 7 (if p - a ≤ 11 then lN (tk_sv T (p - a) a 0) else -1) f wa (nI L))
      · refine aw_go 2 75 [some (.ref 0), some (.int 1)] [.int 1, .ref 0] (wdH (nI p) (nI a) kn vu f wa (nI L)) rfl ?_
        refine aw_if_eq rfl (fun h75 => absurd h75 (by decide)) (fun h75 => ?_)
        refine aw_go 5 90 [some (.ref 0), some (.int 1)] [.int 1, .ref 0] (wdH (nI p) (nI a) 6 vu f wa (nI L)) rfl ?_
        refine aw_if_eq rfl (fun h90 => absurd h90 (by decide)) (fun h90 => ?_)
        refine aw_go 5 102 [some (.ref 0), some (.int 1)] [.int (nI p), .int (nI a), .ref 0, .ref 0] (wdH (nI p) (nI a) 6 vu f wa (nI L)) rfl ?_
        refine aw_cV [0, 1, 2, 3] (c_Wd_naturalOf l f wa L T hT a p (by omega) (by omega) (nI p) (nI a) 6 vu (tk_run_d hrun)) rfl cw_Wd_58 rfl rfl rfl rfl rfl rfl (Nat.le_refl _) (Nat.le_refl _) (fun r h' hp => ?_)
        obtain ⟨rfl, rfl⟩ := hp
        refine aw_go 2 123 [some (.ref 0), some (.int 1)] [] (wdH (nI p) (nI a) 6 (oL (tk_nv T (p - a) a 0)) f wa (nI L)) rfl ?_
        exact aw_vret rfl rfl ⟨rfl, by rw [hrun]; rfl⟩ rfl (Nat.le_refl _) (Nat.le_refl _) -- [] (wdH (nI p) (nI a) 6 (oL (tk_nv T (p - a) a 0)) f wa (nI L))
    · refine aw_go 1 34 [some (.ref 0), some (.int (rb b))] [.int (rb b)] (wdH (nI p) (nI a) kn vu f wa (nI L)) rfl ?_
      cases b
      · refine aw_if_eq rfl (fun h34 => ?_) (fun h34 => absurd h34 (by decide))
        refine aw_go 9 2 [some (.ref 0), some (.int 0)] [] (wdH ((nI p) + 1) (nI a) kn vu f wa (nI L)) rfl ?_
        -- LOOP 2: [some (.ref 0), some (.int 0)] [] (wdH ((nI p) + 1) (nI a) kn vu f wa (nI L))
        exact aw_eq rfl rfl (by simp only [nI_succ]) (ih (p + 1, false) ⟨by show a ≤ p + 1; omega, by show p + 1 ≤ L; omega, by rw [← hI.2.2, tk_run_s hp, if_pos (tk_at1 h30)]; rfl⟩ (by show L - (p + 1) < L - p; omega))
      · refine aw_if_eq rfl (fun h34 => absurd h34 (by decide)) (fun h34 => ?_)
        refine aw_go 4 45 [some (.ref 0), some (.int 1)] [.int (nI p), .ref 1] (wdH (nI p) (nI a) kn vu f wa (nI L)) rfl ?_
        refine aw_cV [1, 2, 3] (c_Tx_sg l f wa L T p hT hp) rfl cw_Wd_45 rfl rfl rfl rfl rfl rfl (Nat.le_refl _) (Nat.le_refl _) (fun r h' hp => ?_)
        obtain ⟨rfl, rfl⟩ := hp
        refine aw_go 0 48 [some (.ref 0), some (.int 1)] [.int (nI (T p))] (wdH (nI p) (nI a) kn vu f wa (nI L)) rfl ?_
        refine aw_cS [] (c_Sg_isDigit l (T p) (hT.2 p hp).1) rfl cw_Wd_55 rfl rfl rfl rfl (Nat.le_refl _) (Nat.le_refl _) (fun r h' hp => ?_)
        obtain ⟨rfl, rfl⟩ := hp
        refine aw_go 0 51 [some (.ref 0), some (.int 1)] [.int (if sg_dig (T p) = true then 1 else 0)] (wdH (nI p) (nI a) kn vu f wa (nI L)) rfl ?_
        refine aw_if_eq rfl (fun h51 => ?_) (fun h51 => ?_)
        · refine aw_go 9 2 [some (.ref 0), some (.int 0)] [] (wdH ((nI p) + 1) (nI a) kn vu f wa (nI L)) rfl ?_
          -- LOOP 2: [some (.ref 0), some (.int 0)] [] (wdH ((nI p) + 1) (nI a) kn vu f wa (nI L))
          exact aw_eq rfl rfl (by simp only [nI_succ]) (ih (p + 1, false) ⟨by show a ≤ p + 1; omega, by show p + 1 ≤ L; omega, by rw [← hI.2.2, tk_run_s hp, if_pos (tk_at1 h30)]; rw [Bool.true_and, tk_dg0 h51]⟩ (by show L - (p + 1) < L - p; omega))
        · refine aw_go 10 2 [some (.ref 0), some (.int 1)] [] (wdH ((nI p) + 1) (nI a) kn vu f wa (nI L)) rfl ?_
          -- LOOP 2: [some (.ref 0), some (.int 1)] [] (wdH ((nI p) + 1) (nI a) kn vu f wa (nI L))
          exact aw_eq rfl rfl (by simp only [nI_succ]) (ih (p + 1, true) ⟨by show a ≤ p + 1; omega, by show p + 1 ≤ L; omega, by rw [← hI.2.2, tk_run_s hp, if_pos (tk_at1 h30)]; rw [Bool.true_and, tk_dg1 h51]⟩ (by show L - (p + 1) < L - p; omega))
