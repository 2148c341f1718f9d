/-! reading a text, on trees -/
/-- how many of the first characters are not 0 -/
def tx_nz (T : Nat → Nat) : Nat → Nat
  | 0 => 0
  | p + 1 => tx_nz T p + (if T p = 0 then 0 else 1)
theorem tx_nz_le (T : Nat → Nat) : ∀ p, tx_nz T p ≤ p := by
  intro p
  induction p with
  | zero => exact Nat.le_refl _
  | succ p ih => simp only [tx_nz]; split <;> omega
theorem tx_nz_mono (T : Nat → Nat) {a b : Nat} (h : a ≤ b) : tx_nz T a ≤ tx_nz T b := by
  induction b with
  | zero => rw [show a = 0 by omega]; exact Nat.le_refl _
  | succ b ih =>
    rcases Nat.lt_or_ge b a with q | q
    · rw [show a = b + 1 by omega]; exact Nat.le_refl _
    · have := ih q
      simp only [tx_nz]
      omega
theorem tx_nz_s {T : Nat → Nat} {s b : Nat} (h : T s ≠ 0) (hb : s < b) : tx_nz T s + 1 ≤ tx_nz T b := by
  have := tx_nz_mono T (a := s + 1) (b := b) hb
  simp only [tx_nz, if_neg h] at this
  exact this
/-- the tree of the atom that begins at s -/
def tk_tr (T : Nat → Nat) (L s : Nat) : Tr := if (tk_run T (L - s) s true).2 = true then tr_nat ((tk_nv T ((tk_run T (L - s) s true).1 - s) s 0).getD 0) else tr_sym (tk_sv T ((tk_run T (L - s) s true).1 - s) s 0)
/-- the TEXT is read from p on, the nth word is next: the fault, its place, the object -/
def ps_rd (T : Nat → Nat) (L : Nat) : Nat → Nat → Nat → List Fr → Option Tr → Nat × Nat × Option Tr
  | 0, _, _, _, _ => (0, 0, none)
  | q + 1, p, nth, fs, dn =>
    if rd_fl (tk_kn T L (tk_sk T (L - p) p false)) (tk_vl T L (tk_sk T (L - p) p false) 0) fs.length (ps_sg fs dn) nth ≠ 0 then (rd_fl (tk_kn T L (tk_sk T (L - p) p false)) (tk_vl T L (tk_sk T (L - p) p false) 0) fs.length (ps_sg fs dn) nth, tk_sk T (L - p) p false, none)
    else if tk_kn T L (tk_sk T (L - p) p false) = 0 then (0, 0, dn)
    else ps_rd T L q (tk_nx T L (tk_sk T (L - p) p false)) (nth + 1) (ps_step fs dn (tk_kn T L (tk_sk T (L - p) p false)) (tk_tr T L (tk_sk T (L - p) p false))).1 (ps_step fs dn (tk_kn T L (tk_sk T (L - p) p false)) (tk_tr T L (tk_sk T (L - p) p false))).2
theorem ps_rd_f {T : Nat → Nat} {L q p nth s k f : Nat} {fs : List Fr} {dn : Option Tr} (hs : tk_sk T (L - p) p false = s) (hk : tk_kn T L s = k) (hf : rd_fl k (tk_vl T L s 0) fs.length (ps_sg fs dn) nth = f) (h : f ≠ 0) : ps_rd T L (q + 1) p nth fs dn = (f, s, none) := by
  simp only [ps_rd, hs, hk, hf, if_pos h]
theorem ps_rd_e {T : Nat → Nat} {L q p nth s k f : Nat} {fs : List Fr} {dn : Option Tr} (hs : tk_sk T (L - p) p false = s) (hk : tk_kn T L s = k) (hf : rd_fl k (tk_vl T L s 0) fs.length (ps_sg fs dn) nth = f) (h : f = 0) (h0 : k = 0) : ps_rd T L (q + 1) p nth fs dn = (0, 0, dn) := by
  simp only [ps_rd, hs, hk, hf, if_neg (show ¬ f ≠ 0 from fun z => z h), if_pos h0]
theorem ps_rd_s {T : Nat → Nat} {L q p nth s k f : Nat} {fs : List Fr} {dn : Option Tr} (hs : tk_sk T (L - p) p false = s) (hk : tk_kn T L s = k) (hf : rd_fl k (tk_vl T L s 0) fs.length (ps_sg fs dn) nth = f) (h : f = 0) (h0 : k ≠ 0) : ps_rd T L (q + 1) p nth fs dn = ps_rd T L q (tk_nx T L s) (nth + 1) (ps_step fs dn k (tk_tr T L s)).1 (ps_step fs dn k (tk_tr T L s)).2 := by
  simp only [ps_rd, hs, hk, hf, if_neg (show ¬ f ≠ 0 from fun z => z h), if_neg h0]
theorem tk_kn_lt (T : Nat → Nat) (L s : Nat) : tk_kn T L s < 8 := by
  unfold tk_kn
  repeat' split
  all_goals first | omega | exact tk_kd_lt T L s
theorem tk_kn67 {T : Nat → Nat} {L s : Nat} : (tk_kn T L s = 6 ∨ tk_kn T L s = 7) ↔ tk_kd T L s = 7 := by
  unfold tk_kn
  have : tk_kd T L s ≠ 6 := by
    unfold tk_kd
    repeat' split
    all_goals omega
  split
  · rename_i h
    refine ⟨fun _ => h, fun _ => ?_⟩
    split
    · exact Or.inl rfl
    · exact Or.inr rfl
  · rename_i h
    omega
theorem rd_fl_v {T : Nat → Nat} {L s lv sg nth : Nat} (vu vu2 : Int64) : rd_fl (tk_kn T L s) (tk_vl T L s vu) lv sg nth = rd_fl (tk_kn T L s) (tk_vl T L s vu2) lv sg nth := by
  by_cases h : tk_kd T L s = 7
  · rw [tk_vl_7 h, tk_vl_7 h]
  · have h2 : ¬ (tk_kn T L s = 6 ∨ tk_kn T L s = 7) := fun z => h (tk_kn67.mp z)
    have e : ∀ v : Int64, ((tk_kn T L s = 6 ∨ tk_kn T L s = 7) ∧ v = -1) = False := fun v => eq_false (fun z => h2 z.1)
    unfold rd_fl
    simp only [e]
/-- what no fault says -/
theorem rd_fl0 {k : Nat} {vu : Int64} {lv sg nth : Nat} (h : rd_fl k vu lv sg nth = 0) : k ≠ 1 ∧ (k = 6 ∨ k = 7 → vu ≠ -1) ∧ rd_cs k sg = true ∧ (k = 2 ∨ k = 4 → lv < 40) ∧ (k ≠ 0 → nth ≤ 1000) := by
  unfold rd_fl at h
  by_cases h1 : k = 1
  · rw [if_pos h1] at h; cases h
  rw [if_neg h1] at h
  by_cases h2 : (k = 6 ∨ k = 7) ∧ vu = -1
  · rw [if_pos h2] at h; cases h
  rw [if_neg h2] at h
  by_cases h3 : rd_cs k sg = false
  · rw [if_pos h3] at h; cases h
  rw [if_neg h3] at h
  by_cases h4 : (k = 2 ∨ k = 4) ∧ 40 ≤ lv
  · rw [if_pos h4] at h; cases h
  rw [if_neg h4] at h
  by_cases h5 : k ≠ 0 ∧ 1000 < nth
  · rw [if_pos h5] at h; cases h
  refine ⟨h1, fun z e => h2 ⟨z, e⟩, ?_, fun z => ?_, fun z => ?_⟩
  · cases q : rd_cs k sg with
    | true => rfl
    | false => exact absurd q h3
  · exact Nat.not_le.mp fun e => h4 ⟨z, e⟩
  · exact Nat.not_lt.mp fun e => h5 ⟨z, e⟩
theorem rd_fl_lt (k : Nat) (vu : Int64) (lv sg nth : Nat) : rd_fl k vu lv sg nth < 6 := by
  unfold rd_fl
  repeat' split
  all_goals omega
theorem tk_nv_lt (T : Nat → Nat) : ∀ (q k v w : Nat), v ≤ 4611686018427387903 → (∀ j, k ≤ j → j < k + q → T j < 58) → tk_nv T q k v = some w → w ≤ 4611686018427387903 := by
  intro q
  induction q with
  | zero => intro k v w h _ e; cases e; exact h
  | succ q ih =>
    intro k v w h hT e
    unfold tk_nv at e
    split at e
    · have := hT k (Nat.le_refl _) (by omega)
      exact ih (k + 1) _ w (by omega) (fun j h1 h2 => hT j (by omega) (by omega)) e
    · cases e
theorem sg_j_lt (ch : Nat) : sg_j ch < 47 := by
  unfold sg_j
  cases h : sg_ix ch with
  | none => exact (by decide : 0 < 47)
  | some j => exact sg_ix_lt h
theorem tk_sv_lt (T : Nat → Nat) : ∀ (q k v c : Nat), v < c → tk_sv T q k v < c * 47 ^ q := by
  intro q
  induction q with
  | zero => intro k v c h; simpa [tk_sv] using h
  | succ q ih =>
    intro k v c h
    have := ih (k + 1) (v * 47 + sg_j (T k)) (c * 47) (by have := sg_j_lt (T k); omega)
    simp only [tk_sv]
    rw [Nat.pow_succ, Nat.mul_comm (47 ^ q) 47, ← Nat.mul_assoc]
    exact this
/-- an atom without a fault: its value and its tree -/
theorem tk_atom {T : Nat → Nat} {L s : Nat} {vu : Int64} (h : tk_kd T L s = 7) (hv : tk_vl T L s vu ≠ -1) : ∃ v, v < 4611686018427387904 ∧ tk_vl T L s vu = lN v ∧ ((tk_kn T L s = 6 ∧ tk_tr T L s = tr_nat v) ∨ (tk_kn T L s = 7 ∧ tk_tr T L s = tr_sym v)) := by
  rw [tk_vl_7 h] at hv ⊢
  rw [tk_kn_7 h]
  unfold tk_tr
  rcases hr : tk_run T (L - s) s true with ⟨e, c⟩
  obtain ⟨r1, r2, r3, r4⟩ := tk_run_all T _ _ _ _ _ hr
  rw [hr] at hv
  unfold tk_av at hv ⊢
  dsimp only at hv ⊢
  cases c with
  | true =>
    simp only [if_true] at hv ⊢
    cases hn : tk_nv T (e - s) s 0 with
    | none => rw [hn] at hv; exact absurd rfl hv
    | some w =>
      have hw := tk_nv_lt T (e - s) s 0 w (by omega) (fun j h1 h2 => by have := sg_dig_iff.mp ((r4 rfl).2 j h1 (by omega)); omega) hn
      exact ⟨w, by omega, rfl, Or.inl ⟨trivial, rfl⟩⟩
  | false =>
    simp only [Bool.false_eq_true, if_false] at hv ⊢
    by_cases h11 : e - s ≤ 11
    · have hw := tk_sv_lt T (e - s) s 0 1 (by omega)
      have h2 : 47 ^ (e - s) ≤ 47 ^ 11 := Nat.pow_le_pow_right (by omega) h11
      have h3 : (47 : Nat) ^ 11 < 4611686018427387904 := by decide
      exact ⟨tk_sv T (e - s) s 0, by omega, by rw [if_pos h11], Or.inr ⟨trivial, rfl⟩⟩
    · rw [if_neg h11] at hv
      exact absurd rfl hv
theorem sg_at0 : sg_at 0 = false := by decide +kernel
/-- a word that is taken costs a character that is not 0 -/
theorem tk_nz {T : Nat → Nat} {L s : Nat} (h0 : tk_kn T L s ≠ 0) (h1 : tk_kn T L s ≠ 1) : s < L ∧ T s ≠ 0 ∧ s < tk_nx T L s ∧ tk_nx T L s ≤ L := by
  have hk0 : tk_kd T L s ≠ 0 := fun z => h0 (by rw [tk_kn_n (by omega)]; exact z)
  have hk1 : tk_kd T L s ≠ 1 := fun z => h1 (by rw [tk_kn_n (by omega)]; exact z)
  have hs : s < L := Nat.not_le.mp fun z => hk0 (tk_kd_end z)
  refine ⟨hs, fun z => ?_, ?_⟩
  · refine hk1 ?_
    refine tk_kd_no hs ⟨by omega, by omega, by omega, by omega⟩ ?_
    rw [z, sg_at0]
    decide
  · by_cases h7 : tk_kd T L s = 7
    · rw [tk_nx_7 h7]
      have ha : sg_at (T s) = true := by
        unfold tk_kd at h7
        rw [if_pos hs] at h7
        split at h7
        · cases h7
        split at h7
        · cases h7
        split at h7
        · cases h7
        split at h7
        · cases h7
        split at h7
        · assumption
        · cases h7
      rw [tk_run_s hs, if_pos ha]
      rcases hr : tk_run T (L - (s + 1)) (s + 1) (true && sg_dig (T s)) with ⟨e, c⟩
      obtain ⟨r1, r2, -⟩ := tk_run_all T _ _ _ _ _ hr
      dsimp only
      omega
    · rw [tk_nx_n h7 hk0]
      omega
