/-! Words: blanks, kinds -/
def wdH (nx sa kn : Int32) (vu : Int64) (f wa : Nat → Int32) (len : Int32) : am_H := [.inr (6, [.ref 1, .int nx, .int sa, .int kn, .long vu]), .inr (5, [.ref 2, .ref 3, .int len]), .inl (2, 3000, .inl f), .inl (0, 5, .inl wa)]
/-- the TEXT's characters -/
def tx_T (f : Nat → Int32) (T : Nat → Nat) (L : Nat) : Prop := L ≤ 3000 ∧ ∀ j, j < L → T j < 256 ∧ f j = nI (T j)
theorem c_Tx_sg (l : Launch) (f wa : Nat → Int32) (L : Nat) (T : Nat → Nat) (k : Nat) (hT : tx_T f T L) (hk : k < L) : Con l y_Tx_signAt M_Tx_signAt 0 0 [.ref 0, .int (nI k)] (txH f wa (nI L)) 3 0 0 0 (fun r h' => r = some (.int (nI (T k))) ∧ h' = txH f wa (nI L)) := by
  have h := c_Tx_signAt l f wa L k hk hT.1 ⟨_, hT.2 k hk⟩
  rw [(hT.2 k hk).2] at h
  exact h
def rb (b : Bool) : Int32 := match b with
  | true => 1
  | false => 0
/-- where the blanks end -/
def tk_sk (T : Nat → Nat) : Nat → Nat → Bool → Nat
  | 0, p, _ => p
  | q + 1, p, b => if T p = 10 then tk_sk T q (p + 1) false else if T p = 59 then tk_sk T q (p + 1) true else if T p = 32 ∨ b = true then tk_sk T q (p + 1) b else p
theorem tk_sk_s {T : Nat → Nat} {L p : Nat} {b : Bool} (h : p < L) : tk_sk T (L - p) p b = if T p = 10 then tk_sk T (L - (p + 1)) (p + 1) false else if T p = 59 then tk_sk T (L - (p + 1)) (p + 1) true else if T p = 32 ∨ b = true then tk_sk T (L - (p + 1)) (p + 1) b else p := by
  rw [show L - p = (L - (p + 1)) + 1 by omega]
  rfl
theorem tk_c {z k : Nat} (hz : z < 256) (hk : k < 256) (h : nI z = nI k) : z = k := nI_inj (by omega) (by omega) h
theorem tk_n {z k : Nat} (h : ¬ nI z = nI k) : ¬ z = k := fun e => h (by rw [e])
/-- a word's kind by its first character; every atom is a symbol here -/
def tk_kd (T : Nat → Nat) (L p : Nat) : Nat := if p < L then (if T p = 40 then 2 else if T p = 41 then 3 else if T p = 39 then 4 else if T p = 46 then 5 else if sg_at (T p) = true then 7 else 1) else 0
theorem tk_kd_end {T : Nat → Nat} {L p : Nat} (h : L ≤ p) : tk_kd T L p = 0 := by unfold tk_kd; rw [if_neg (by omega)]
theorem tk_kd_40 {T : Nat → Nat} {L p : Nat} (h : p < L) (e : T p = 40) : tk_kd T L p = 2 := by unfold tk_kd; rw [if_pos h, if_pos e]
theorem tk_kd_41 {T : Nat → Nat} {L p : Nat} (h : p < L) (e : T p = 41) : tk_kd T L p = 3 := by unfold tk_kd; rw [if_pos h, if_neg (by omega), if_pos e]
theorem tk_kd_39 {T : Nat → Nat} {L p : Nat} (h : p < L) (e : T p = 39) : tk_kd T L p = 4 := by unfold tk_kd; rw [if_pos h, if_neg (by omega), if_neg (by omega), if_pos e]
theorem tk_kd_46 {T : Nat → Nat} {L p : Nat} (h : p < L) (e : T p = 46) : tk_kd T L p = 5 := by unfold tk_kd; rw [if_pos h, if_neg (by omega), if_neg (by omega), if_neg (by omega), if_pos e]
theorem tk_kd_at {T : Nat → Nat} {L p : Nat} (h : p < L) (e : T p ≠ 40 ∧ T p ≠ 41 ∧ T p ≠ 39 ∧ T p ≠ 46) (h2 : sg_at (T p) = true) : tk_kd T L p = 7 := by unfold tk_kd; rw [if_pos h, if_neg e.1, if_neg e.2.1, if_neg e.2.2.1, if_neg e.2.2.2, if_pos h2]
theorem tk_kd_no {T : Nat → Nat} {L p : Nat} (h : p < L) (e : T p ≠ 40 ∧ T p ≠ 41 ∧ T p ≠ 39 ∧ T p ≠ 46) (h2 : ¬ sg_at (T p) = true) : tk_kd T L p = 1 := by unfold tk_kd; rw [if_pos h, if_neg e.1, if_neg e.2.1, if_neg e.2.2.1, if_neg e.2.2.2, if_neg h2]
theorem tk_at0 {q : Nat} (h : (if sg_at q = true then (1 : Int32) else 0) = 0) : ¬ sg_at q = true := fun z => by rw [if_pos z] at h; cases h
theorem tk_at1 {q : Nat} (h : ¬ (if sg_at q = true then (1 : Int32) else 0) = 0) : sg_at q = true := Classical.byContradiction fun z => h (if_neg z)
set_option maxHeartbeats 2000000 in
set_option maxRecDepth 100000 in
theorem c_Wd_start (l : Launch) (f wa : Nat → Int32) (len : Int32) (nx sa kn : Int32) (vu : Int64) : Con l y_Wd_start M_Wd_start 0 0 [.ref 0] (wdH nx sa kn vu f wa len) 4 0 0 0 (fun r h' => r = some (.int sa) ∧ h' = wdH nx sa kn vu f wa len) := by
  refine Con.ent ok_Wd_start (by decide +kernel) rfl ?_
  intro pA eA sA mA argsA belowA methA cA GA μA
  refine aw_go 2 4 [some (.ref 0)] [.int sa] (wdH nx sa kn vu f wa len) rfl ?_
  exact aw_iret rfl rfl rfl ⟨rfl, rfl⟩ rfl (Nat.le_refl _) (Nat.le_refl _) -- [.int sa] (wdH nx sa kn vu f wa len)
set_option maxHeartbeats 2000000 in
set_option maxRecDepth 100000 in
theorem c_Wd_kind (l : Launch) (f wa : Nat → Int32) (len : Int32) (nx sa kn : Int32) (vu : Int64) : Con l y_Wd_kind M_Wd_kind 0 0 [.ref 0] (wdH nx sa kn vu f wa len) 4 0 0 0 (fun r h' => r = some (.int kn) ∧ h' = wdH nx sa kn vu f wa len) := by
  refine Con.ent ok_Wd_kind (by decide +kernel) rfl ?_
  intro pA eA sA mA argsA belowA methA cA GA μA
  refine aw_go 2 4 [some (.ref 0)] [.int kn] (wdH nx sa kn vu f wa len) rfl ?_
  exact aw_iret rfl rfl rfl ⟨rfl, rfl⟩ rfl (Nat.le_refl _) (Nat.le_refl _) -- [.int kn] (wdH nx sa kn vu f wa len)
set_option maxHeartbeats 2000000 in
set_option maxRecDepth 100000 in
theorem c_Wd_value (l : Launch) (f wa : Nat → Int32) (len : Int32) (nx sa kn : Int32) (vu : Int64) : Con l y_Wd_value M_Wd_value 0 0 [.ref 0] (wdH nx sa kn vu f wa len) 4 0 0 0 (fun r h' => r = some (.long vu) ∧ h' = wdH nx sa kn vu f wa len) := by
  refine Con.ent ok_Wd_value (by decide +kernel) rfl ?_
  intro pA eA sA mA argsA belowA methA cA GA μA
  refine aw_go 2 4 [some (.ref 0)] [.long vu] (wdH nx sa kn vu f wa len) rfl ?_
  exact aw_lret rfl rfl ⟨rfl, rfl⟩ rfl (Nat.le_refl _) (Nat.le_refl _) -- [.long vu] (wdH nx sa kn vu f wa len)
set_option maxHeartbeats 2000000 in
set_option maxRecDepth 100000 in
theorem c_Wd_goToFront (l : Launch) (f wa : Nat → Int32) (len : Int32) (nx sa kn : Int32) (vu : Int64) : Con l y_Wd_goToFront M_Wd_goToFront 0 0 [.ref 0] (wdH nx sa kn vu f wa len) 4 0 0 0 (fun r h' => r = none ∧ h' = wdH 0 sa kn vu f wa len) := by
  refine Con.ent ok_Wd_goToFront (by decide +kernel) rfl ?_
  intro pA eA sA mA argsA belowA methA cA GA μA
  refine aw_go 3 5 [some (.ref 0)] [] (wdH 0 sa kn vu f wa len) rfl ?_
  exact aw_vret rfl rfl ⟨rfl, rfl⟩ rfl (Nat.le_refl _) (Nat.le_refl _) -- [] (wdH 0 sa kn vu f wa len)
set_option maxHeartbeats 2000000 in
set_option maxRecDepth 100000 in
theorem c_Wd_skipBlanks (l : Launch) (f wa : Nat → Int32) (L : Nat) (T : Nat → Nat) (hT : tx_T f T L) (p0 : Nat) (hp0 : p0 ≤ L) (sa kn : Int32) (vu : Int64) : Con l y_Wd_skipBlanks M_Wd_skipBlanks 1 21 [.ref 0] (wdH (nI p0) sa kn vu f wa (nI L)) 4 0 0 0 (fun r h' => r = none ∧ h' = wdH (nI (tk_sk T (L - p0) p0 false)) sa kn vu f wa (nI L)) := by
  refine Con.ent ok_Wd_skipBlanks (by decide +kernel) rfl ?_
  intro pA eA sA mA argsA belowA methA cA GA μA
  have hL := hT.1
  refine aw_go 2 2 [some (.ref 0), some (.int (rb false)), none] [] (wdH (nI p0) sa kn vu f wa (nI L)) rfl ?_
  refine aw_loop (σ := Nat × Bool) (fun y => y.1 ≤ L ∧ tk_sk T (L - y.1) y.1 y.2 = tk_sk T (L - p0) p0 false) (fun y => L - y.1) (fun y => [some (.ref 0), some (.int (rb y.2)), none]) (fun _ => []) (fun y => wdH (nI y.1) sa kn vu f wa (nI L)) ?_ (p0, false) ⟨hp0, rfl⟩
  rintro ⟨p, b⟩ hI ih
  dsimp only at hI ih ⊢
  refine aw_go 4 10 [some (.ref 0), some (.int (rb b)), none] [.ref 1, .int (nI p)] (wdH (nI p) sa kn vu f wa (nI L)) rfl ?_
  refine aw_cV [1, 2, 3] (c_Tx_length l f wa L) rfl cw_Wd_39 rfl rfl rfl rfl rfl rfl (Nat.le_refl _) (Nat.le_refl _) (fun r h' hp => ?_)
  obtain ⟨rfl, rfl⟩ := hp
  refine aw_go 0 13 [some (.ref 0), some (.int (rb b)), none] [.int (nI L), .int (nI p)] (wdH (nI p) sa kn vu f wa (nI L)) rfl ?_
  refine aw_cmp_ge rfl (fun h13 => ?_) (fun h13 => ?_)
  · exact aw_vret rfl rfl ⟨rfl, by rw [← hI.2, show L - p = 0 from (by have h9 : ¬ p < L := (fun z => nI_ge z (by omega) h13); omega)]; rfl⟩ rfl (Nat.le_refl _) (Nat.le_refl _) -- [] (wdH (nI p) sa kn vu f wa (nI L))
  · have hp : p < L := Nat.not_le.mp fun z => h13 (nI_le z (by omega))
    refine aw_go 4 24 [some (.ref 0), some (.int (rb b)), none] [.int (nI p), .ref 1] (wdH (nI p) sa kn vu f wa (nI L)) rfl ?_
    refine aw_cV [1, 2, 3] (c_Tx_sg l f wa L T p hT hp) rfl cw_Wd_45 rfl rfl rfl rfl rfl rfl (Nat.le_refl _) (Nat.le_refl _) (fun r h' hp => ?_)
    obtain ⟨rfl, rfl⟩ := hp
    refine aw_go 3 31 [some (.ref 0), some (.int (rb b)), some (.int (nI (T p)))] [.int 10, .int (nI (T p))] (wdH (nI p) sa kn vu f wa (nI L)) rfl ?_
    refine aw_cmp_ne rfl (fun h31 => ?_) (fun h31 => ?_)
    · refine aw_go 2 42 [some (.ref 0), some (.int (rb b)), some (.int (nI (T p)))] [.int 59, .int (nI (T p))] (wdH (nI p) sa kn vu f wa (nI L)) rfl ?_
      refine aw_cmp_ne rfl (fun h42 => ?_) (fun h42 => ?_)
      · refine aw_go 2 53 [some (.ref 0), some (.int (rb b)), some (.int (nI (T p)))] [.int 32, .int (nI (T p))] (wdH (nI p) sa kn vu f wa (nI L)) rfl ?_
        refine aw_cmp_eq rfl (fun h53 => ?_) (fun h53 => ?_)
        · refine aw_go 7 2 [some (.ref 0), some (.int (rb b)), some (.int (nI (T p)))] [] (wdH ((nI p) + 1) sa kn vu f wa (nI L)) rfl ?_
          -- LOOP 2: [some (.ref 0), some (.int (rb b)), some (.int (nI (T p)))] [] (wdH ((nI p) + 1) sa kn vu f wa (nI L))
          exact aw_mask [true, true, false] (aw_eq rfl rfl (by simp only [nI_succ]) (ih (p + 1, b) ⟨by show p + 1 ≤ L; omega, by rw [← hI.2, tk_sk_s hp]; rw [if_neg (fun z => h31 (by rw [z]; rfl)), if_neg (fun z => h42 (by rw [z]; rfl)), if_pos (Or.inl (tk_c (hT.2 p hp).1 (k := 32) (by omega) h53))]⟩ (by show L - (p + 1) < L - p; omega)))
        · refine aw_go 1 57 [some (.ref 0), some (.int (rb b)), some (.int (nI (T p)))] [.int (rb b)] (wdH (nI p) sa kn vu f wa (nI L)) rfl ?_
          cases b
          · refine aw_if_ne rfl (fun h57 => absurd h57 (by decide)) (fun h57 => ?_)
            exact aw_vret rfl rfl ⟨rfl, by rw [← hI.2, tk_sk_s hp, if_neg (fun z => h31 (by rw [z]; rfl)), if_neg (fun z => h42 (by rw [z]; rfl)), if_neg (by rintro (z | z); exact h53 (by rw [z]; rfl); cases z)]⟩ rfl (Nat.le_refl _) (Nat.le_refl _) -- [] (wdH (nI p) sa kn vu f wa (nI L))
          · refine aw_if_ne rfl (fun h57 => ?_) (fun h57 => absurd h57 (by decide))
            refine aw_go 7 2 [some (.ref 0), some (.int 1), some (.int (nI (T p)))] [] (wdH ((nI p) + 1) sa kn vu f wa (nI L)) rfl ?_
            -- LOOP 2: [some (.ref 0), some (.int 1), some (.int (nI (T p)))] [] (wdH ((nI p) + 1) sa kn vu f wa (nI L))
            exact aw_mask [true, true, false] (aw_eq rfl rfl (by simp only [nI_succ]) (ih (p + 1, true) ⟨by show p + 1 ≤ L; omega, by rw [← hI.2, tk_sk_s hp]; rw [if_neg (fun z => h31 (by rw [z]; rfl)), if_neg (fun z => h42 (by rw [z]; rfl)), if_pos (Or.inr rfl)]⟩ (by show L - (p + 1) < L - p; omega)))
      · refine aw_go 10 2 [some (.ref 0), some (.int 1), some (.int (nI (T p)))] [] (wdH ((nI p) + 1) sa kn vu f wa (nI L)) rfl ?_
        -- LOOP 2: [some (.ref 0), some (.int 1), some (.int (nI (T p)))] [] (wdH ((nI p) + 1) sa kn vu f wa (nI L))
        exact aw_mask [true, true, false] (aw_eq rfl rfl (by simp only [nI_succ]) (ih (p + 1, true) ⟨by show p + 1 ≤ L; omega, by rw [← hI.2, tk_sk_s hp]; rw [if_neg (fun z => h31 (by rw [z]; rfl)), if_pos (tk_c (hT.2 p hp).1 (k := 59) (by omega) h42)]⟩ (by show L - (p + 1) < L - p; omega)))
    · refine aw_go 10 2 [some (.ref 0), some (.int 0), some (.int (nI (T p)))] [] (wdH ((nI p) + 1) sa kn vu f wa (nI L)) rfl ?_
      -- LOOP 2: [some (.ref 0), some (.int 0), some (.int (nI (T p)))] [] (wdH ((nI p) + 1) sa kn vu f wa (nI L))
      exact aw_mask [true, true, false] (aw_eq rfl rfl (by simp only [nI_succ]) (ih (p + 1, false) ⟨by show p + 1 ≤ L; omega, by rw [← hI.2, tk_sk_s hp]; rw [if_pos (tk_c (hT.2 p hp).1 (k := 10) (by omega) h31)]⟩ (by show L - (p + 1) < L - p; omega)))
set_option maxHeartbeats 2000000 in
set_option maxRecDepth 100000 in
theorem c_Wd_kindAt (l : Launch) (f wa : Nat → Int32) (L : Nat) (T : Nat → Nat) (hT : tx_T f T L) (p : Nat) (hpL : p ≤ L) (nx sa kn : Int32) (vu : Int64) : Con l y_Wd_kindAt M_Wd_kindAt 5 111 [.ref 0, .int (nI p)] (wdH nx sa kn vu f wa (nI L)) 4 0 0 0 (fun r h' => r = some (.int (nI (tk_kd T L p))) ∧ h' = wdH nx sa kn vu f wa (nI L)) := by
  refine Con.ent ok_Wd_kindAt (by decide +kernel) rfl ?_
  intro pA eA sA mA argsA belowA methA cA GA μA
  have hL := hT.1
  refine aw_go 3 5 [some (.ref 0), some (.int (nI p)), none] [.ref 1, .int (nI p)] (wdH nx sa kn vu f wa (nI L)) rfl ?_
  refine aw_cV [1, 2, 3] (c_Tx_length l f wa L) rfl cw_Wd_39 rfl rfl rfl rfl rfl rfl (Nat.le_refl _) (Nat.le_refl _) (fun r h' hp => ?_)
  obtain ⟨rfl, rfl⟩ := hp
  refine aw_go 0 8 [some (.ref 0), some (.int (nI p)), none] [.int (nI L), .int (nI p)] (wdH nx sa kn vu f wa (nI L)) rfl ?_
  refine aw_cmp_lt rfl (fun h8 => ?_) (fun h8 => ?_)
  · have hp : p < L := (nI_ltI (by omega) (by omega)).mp h8
    refine aw_go 3 18 [some (.ref 0), some (.int (nI p)), none] [.int (nI p), .ref 1] (wdH nx sa kn vu f wa (nI L)) rfl ?_
    refine aw_cV [1, 2, 3] (c_Tx_sg l f wa L T p hT hp) rfl cw_Wd_45 rfl rfl rfl rfl rfl rfl (Nat.le_refl _) (Nat.le_refl _) (fun r h' hp => ?_)
    obtain ⟨rfl, rfl⟩ := hp
    refine aw_go 2 23 [some (.ref 0), some (.int (nI p)), some (.int (nI (T p)))] [.int (nI (T p))] (wdH nx sa kn vu f wa (nI L)) rfl ?_
    by_cases hz23_39 : nI (T p) = 39
    · refine aw_tabK 39 49 72 hz23_39 rfl (by decide) ?_
      refine aw_go 1 73 [some (.ref 0), some (.int (nI p)), some (.int (nI (T p)))] [.int 4] (wdH nx sa kn vu f wa (nI L)) rfl ?_
      exact aw_iret rfl rfl rfl ⟨by rw [tk_kd_39 hp (tk_c (hT.2 p hp).1 (k := 39) (by omega) hz23_39)]; rfl, rfl⟩ rfl (Nat.le_refl _) (Nat.le_refl _) -- [.int 4] (wdH nx sa kn vu f wa (nI L))
    by_cases hz23_40 : nI (T p) = 40
    · refine aw_tabK 40 45 68 hz23_40 rfl (by decide) ?_
      refine aw_go 1 69 [some (.ref 0), some (.int (nI p)), some (.int (nI (T p)))] [.int 2] (wdH nx sa kn vu f wa (nI L)) rfl ?_
      exact aw_iret rfl rfl rfl ⟨by rw [tk_kd_40 hp (tk_c (hT.2 p hp).1 (k := 40) (by omega) hz23_40)]; rfl, rfl⟩ rfl (Nat.le_refl _) (Nat.le_refl _) -- [.int 2] (wdH nx sa kn vu f wa (nI L))
    by_cases hz23_41 : nI (T p) = 41
    · refine aw_tabK 41 47 70 hz23_41 rfl (by decide) ?_
      refine aw_go 1 71 [some (.ref 0), some (.int (nI p)), some (.int (nI (T p)))] [.int 3] (wdH nx sa kn vu f wa (nI L)) rfl ?_
      exact aw_iret rfl rfl rfl ⟨by rw [tk_kd_41 hp (tk_c (hT.2 p hp).1 (k := 41) (by omega) hz23_41)]; rfl, rfl⟩ rfl (Nat.le_refl _) (Nat.le_refl _) -- [.int 3] (wdH nx sa kn vu f wa (nI L))
    by_cases hz23_42 : nI (T p) = 42
    · refine aw_tabK 42 53 76 hz23_42 rfl (by decide) ?_
      refine aw_go 1 77 [some (.ref 0), some (.int (nI p)), some (.int (nI (T p)))] [.int (nI (T p))] (wdH nx sa kn vu f wa (nI L)) rfl ?_
      refine aw_cS [] (c_Sg_isOfAtom l (T p) (hT.2 p hp).1) rfl cw_Wd_49 rfl rfl rfl rfl (Nat.le_refl _) (Nat.le_refl _) (fun r h' hp => ?_)
      obtain ⟨rfl, rfl⟩ := hp
      refine aw_go 0 80 [some (.ref 0), some (.int (nI p)), some (.int (nI (T p)))] [.int (if sg_at (T p) = true then 1 else 0)] (wdH nx sa kn vu f wa (nI L)) rfl ?_
      refine aw_if_eq rfl (fun h80 => ?_) (fun h80 => ?_)
      · refine aw_go 1 89 [some (.ref 0), some (.int (nI p)), some (.int (nI (T p)))] [.int 1] (wdH nx sa kn vu f wa (nI L)) rfl ?_
        exact aw_iret rfl rfl rfl ⟨by rw [tk_kd_no hp (by have := tk_c (hT.2 p hp).1 (k := 42) (by omega) hz23_42; omega) (tk_at0 h80)]; rfl, rfl⟩ rfl (Nat.le_refl _) (Nat.le_refl _) -- [.int 1] (wdH nx sa kn vu f wa (nI L))
      · refine aw_go 2 89 [some (.ref 0), some (.int (nI p)), some (.int (nI (T p)))] [.int 7] (wdH nx sa kn vu f wa (nI L)) rfl ?_
        exact aw_iret rfl rfl rfl ⟨by rw [tk_kd_at hp (by have := tk_c (hT.2 p hp).1 (k := 42) (by omega) hz23_42; omega) (tk_at1 h80)]; rfl, rfl⟩ rfl (Nat.le_refl _) (Nat.le_refl _) -- [.int 7] (wdH nx sa kn vu f wa (nI L))
    by_cases hz23_43 : nI (T p) = 43
    · refine aw_tabK 43 53 76 hz23_43 rfl (by decide) ?_
      refine aw_go 1 77 [some (.ref 0), some (.int (nI p)), some (.int (nI (T p)))] [.int (nI (T p))] (wdH nx sa kn vu f wa (nI L)) rfl ?_
      refine aw_cS [] (c_Sg_isOfAtom l (T p) (hT.2 p hp).1) rfl cw_Wd_49 rfl rfl rfl rfl (Nat.le_refl _) (Nat.le_refl _) (fun r h' hp => ?_)
      obtain ⟨rfl, rfl⟩ := hp
      refine aw_go 0 80 [some (.ref 0), some (.int (nI p)), some (.int (nI (T p)))] [.int (if sg_at (T p) = true then 1 else 0)] (wdH nx sa kn vu f wa (nI L)) rfl ?_
      refine aw_if_eq rfl (fun h80 => ?_) (fun h80 => ?_)
      · refine aw_go 1 89 [some (.ref 0), some (.int (nI p)), some (.int (nI (T p)))] [.int 1] (wdH nx sa kn vu f wa (nI L)) rfl ?_
        exact aw_iret rfl rfl rfl ⟨by rw [tk_kd_no hp (by have := tk_c (hT.2 p hp).1 (k := 43) (by omega) hz23_43; omega) (tk_at0 h80)]; rfl, rfl⟩ rfl (Nat.le_refl _) (Nat.le_refl _) -- [.int 1] (wdH nx sa kn vu f wa (nI L))
      · refine aw_go 2 89 [some (.ref 0), some (.int (nI p)), some (.int (nI (T p)))] [.int 7] (wdH nx sa kn vu f wa (nI L)) rfl ?_
        exact aw_iret rfl rfl rfl ⟨by rw [tk_kd_at hp (by have := tk_c (hT.2 p hp).1 (k := 43) (by omega) hz23_43; omega) (tk_at1 h80)]; rfl, rfl⟩ rfl (Nat.le_refl _) (Nat.le_refl _) -- [.int 7] (wdH nx sa kn vu f wa (nI L))
    by_cases hz23_44 : nI (T p) = 44
    · refine aw_tabK 44 53 76 hz23_44 rfl (by decide) ?_
      refine aw_go 1 77 [some (.ref 0), some (.int (nI p)), some (.int (nI (T p)))] [.int (nI (T p))] (wdH nx sa kn vu f wa (nI L)) rfl ?_
      refine aw_cS [] (c_Sg_isOfAtom l (T p) (hT.2 p hp).1) rfl cw_Wd_49 rfl rfl rfl rfl (Nat.le_refl _) (Nat.le_refl _) (fun r h' hp => ?_)
      obtain ⟨rfl, rfl⟩ := hp
      refine aw_go 0 80 [some (.ref 0), some (.int (nI p)), some (.int (nI (T p)))] [.int (if sg_at (T p) = true then 1 else 0)] (wdH nx sa kn vu f wa (nI L)) rfl ?_
      refine aw_if_eq rfl (fun h80 => ?_) (fun h80 => ?_)
      · refine aw_go 1 89 [some (.ref 0), some (.int (nI p)), some (.int (nI (T p)))] [.int 1] (wdH nx sa kn vu f wa (nI L)) rfl ?_
        exact aw_iret rfl rfl rfl ⟨by rw [tk_kd_no hp (by have := tk_c (hT.2 p hp).1 (k := 44) (by omega) hz23_44; omega) (tk_at0 h80)]; rfl, rfl⟩ rfl (Nat.le_refl _) (Nat.le_refl _) -- [.int 1] (wdH nx sa kn vu f wa (nI L))
      · refine aw_go 2 89 [some (.ref 0), some (.int (nI p)), some (.int (nI (T p)))] [.int 7] (wdH nx sa kn vu f wa (nI L)) rfl ?_
        exact aw_iret rfl rfl rfl ⟨by rw [tk_kd_at hp (by have := tk_c (hT.2 p hp).1 (k := 44) (by omega) hz23_44; omega) (tk_at1 h80)]; rfl, rfl⟩ rfl (Nat.le_refl _) (Nat.le_refl _) -- [.int 7] (wdH nx sa kn vu f wa (nI L))
    by_cases hz23_45 : nI (T p) = 45
    · refine aw_tabK 45 53 76 hz23_45 rfl (by decide) ?_
      refine aw_go 1 77 [some (.ref 0), some (.int (nI p)), some (.int (nI (T p)))] [.int (nI (T p))] (wdH nx sa kn vu f wa (nI L)) rfl ?_
      refine aw_cS [] (c_Sg_isOfAtom l (T p) (hT.2 p hp).1) rfl cw_Wd_49 rfl rfl rfl rfl (Nat.le_refl _) (Nat.le_refl _) (fun r h' hp => ?_)
      obtain ⟨rfl, rfl⟩ := hp
      refine aw_go 0 80 [some (.ref 0), some (.int (nI p)), some (.int (nI (T p)))] [.int (if sg_at (T p) = true then 1 else 0)] (wdH nx sa kn vu f wa (nI L)) rfl ?_
      refine aw_if_eq rfl (fun h80 => ?_) (fun h80 => ?_)
      · refine aw_go 1 89 [some (.ref 0), some (.int (nI p)), some (.int (nI (T p)))] [.int 1] (wdH nx sa kn vu f wa (nI L)) rfl ?_
        exact aw_iret rfl rfl rfl ⟨by rw [tk_kd_no hp (by have := tk_c (hT.2 p hp).1 (k := 45) (by omega) hz23_45; omega) (tk_at0 h80)]; rfl, rfl⟩ rfl (Nat.le_refl _) (Nat.le_refl _) -- [.int 1] (wdH nx sa kn vu f wa (nI L))
      · refine aw_go 2 89 [some (.ref 0), some (.int (nI p)), some (.int (nI (T p)))] [.int 7] (wdH nx sa kn vu f wa (nI L)) rfl ?_
        exact aw_iret rfl rfl rfl ⟨by rw [tk_kd_at hp (by have := tk_c (hT.2 p hp).1 (k := 45) (by omega) hz23_45; omega) (tk_at1 h80)]; rfl, rfl⟩ rfl (Nat.le_refl _) (Nat.le_refl _) -- [.int 7] (wdH nx sa kn vu f wa (nI L))
    by_cases hz23_46 : nI (T p) = 46
    · refine aw_tabK 46 51 74 hz23_46 rfl (by decide) ?_
      refine aw_go 1 75 [some (.ref 0), some (.int (nI p)), some (.int (nI (T p)))] [.int 5] (wdH nx sa kn vu f wa (nI L)) rfl ?_
      exact aw_iret rfl rfl rfl ⟨by rw [tk_kd_46 hp (tk_c (hT.2 p hp).1 (k := 46) (by omega) hz23_46)]; rfl, rfl⟩ rfl (Nat.le_refl _) (Nat.le_refl _) -- [.int 5] (wdH nx sa kn vu f wa (nI L))
    refine aw_tabD 76 rfl (by have q0 := lv_neT (a := 39) hz23_39 (by decide); have q1 := lv_neT (a := 40) hz23_40 (by decide); have q2 := lv_neT (a := 41) hz23_41 (by decide); have q3 := lv_neT (a := 42) hz23_42 (by decide); have q4 := lv_neT (a := 43) hz23_43 (by decide); have q5 := lv_neT (a := 44) hz23_44 (by decide); have q6 := lv_neT (a := 45) hz23_45 (by decide); have q7 := lv_neT (a := 46) hz23_46 (by decide); omega) (by decide) ?_
    refine aw_go 1 77 [some (.ref 0), some (.int (nI p)), some (.int (nI (T p)))] [.int (nI (T p))] (wdH nx sa kn vu f wa (nI L)) rfl ?_
    refine aw_cS [] (c_Sg_isOfAtom l (T p) (hT.2 p hp).1) rfl cw_Wd_49 rfl rfl rfl rfl (Nat.le_refl _) (Nat.le_refl _) (fun r h' hp => ?_)
    obtain ⟨rfl, rfl⟩ := hp
    refine aw_go 0 80 [some (.ref 0), some (.int (nI p)), some (.int (nI (T p)))] [.int (if sg_at (T p) = true then 1 else 0)] (wdH nx sa kn vu f wa (nI L)) rfl ?_
    refine aw_if_eq rfl (fun h80 => ?_) (fun h80 => ?_)
    · refine aw_go 1 89 [some (.ref 0), some (.int (nI p)), some (.int (nI (T p)))] [.int 1] (wdH nx sa kn vu f wa (nI L)) rfl ?_
      exact aw_iret rfl rfl rfl ⟨by rw [tk_kd_no hp (by have a1 := tk_n (z := T p) (k := 39) hz23_39; have a2 := tk_n (z := T p) (k := 40) hz23_40; have a3 := tk_n (z := T p) (k := 41) hz23_41; have a4 := tk_n (z := T p) (k := 46) hz23_46; omega) (tk_at0 h80)]; rfl, rfl⟩ rfl (Nat.le_refl _) (Nat.le_refl _) -- [.int 1] (wdH nx sa kn vu f wa (nI L))
    · refine aw_go 2 89 [some (.ref 0), some (.int (nI p)), some (.int (nI (T p)))] [.int 7] (wdH nx sa kn vu f wa (nI L)) rfl ?_
      exact aw_iret rfl rfl rfl ⟨by rw [tk_kd_at hp (by have a1 := tk_n (z := T p) (k := 39) hz23_39; have a2 := tk_n (z := T p) (k := 40) hz23_40; have a3 := tk_n (z := T p) (k := 41) hz23_41; have a4 := tk_n (z := T p) (k := 46) hz23_46; omega) (tk_at1 h80)]; rfl, rfl⟩ rfl (Nat.le_refl _) (Nat.le_refl _) -- [.int 7] (wdH nx sa kn vu f wa (nI L))
  · refine aw_go 1 12 [some (.ref 0), some (.int (nI p)), none] [.int 0] (wdH nx sa kn vu f wa (nI L)) rfl ?_
    exact aw_iret rfl rfl rfl ⟨by rw [tk_kd_end (by have h9 : ¬ p < L := (fun z => h8 (nI_lt z (by omega))); omega)]; rfl, rfl⟩ rfl (Nat.le_refl _) (Nat.le_refl _) -- [.int 0] (wdH nx sa kn vu f wa (nI L))
