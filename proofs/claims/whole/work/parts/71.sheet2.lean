/-! Sheet: as a list of characters -/
/-- a sheet has the first characters of a text -/
def sh_R (cap n : Nat) (f : Nat → Int32) (acc : List Nat) : Prop := n = min acc.length cap ∧ ∀ j, j < n → f j = nI (acc.getD j 0)
def lwH (n1 : Int32) (f1 : Nat → Int32) (n2 : Int32) (f2 : Nat → Int32) : am_H := [.inr (2, [.ref 1, .int n1]), .inl (2, 200, .inl f1), .inr (2, [.ref 3, .int n2]), .inl (2, 200, .inl f2)]
theorem nar_c {ch : Nat} (h : ch < 65536) : vp_nar .char (nI ch) = nI ch := Value.int.inj (pk_charN h).1
theorem getD_appN {a b : List Nat} {m : Nat} (h : m < a.length) : (a ++ b).getD m 0 = a.getD m 0 := by
  rw [List.getD_eq_getElem?_getD, List.getD_eq_getElem?_getD, List.getElem?_append_left h]
theorem getD_end {a : List Nat} {c : Nat} : (a ++ [c]).getD a.length 0 = c := by
  rw [List.getD_eq_getElem?_getD, List.getElem?_append_right (Nat.le_refl _), Nat.sub_self]
  rfl
theorem c_Sh_ad (l : Launch) (cap n : Nat) (f : Nat → Int32) (acc : List Nat) (ch : Nat) (hc : cap < 2 ^ 31) (hR : sh_R cap n f acc) (hch : ch < 65536) : Con l y_Sh_add M_Sh_add 0 0 [.ref 0, .int (nI ch)] (shH cap (nI n) f) 2 0 0 0 (fun r h' => r = none ∧ ∃ n2 f2, sh_R cap n2 f2 (acc ++ [ch]) ∧ h' = shH cap (nI n2) f2) := by
  refine (c_Sh_add l cap n f (nI ch) hc (by have := hR.1; omega)).mono ?_
  rintro r h' ⟨rfl, rfl⟩
  refine ⟨rfl, ?_⟩
  obtain ⟨h1, h2⟩ := hR
  by_cases q : n < cap
  · rw [if_pos q, nar_c hch]
    refine ⟨n + 1, _, ⟨by rw [List.length_append, List.length_singleton]; omega, fun j hj => ?_⟩, rfl⟩
    have hn : n = acc.length := by omega
    by_cases e : j = n
    · subst e
      rw [pk_us, hn, getD_end]
    · rw [pk_un e, getD_appN (by omega)]
      exact h2 j (by omega)
  · rw [if_neg q]
    refine ⟨n, f, ⟨by rw [List.length_append]; omega, fun j hj => ?_⟩, rfl⟩
    rw [getD_appN (by omega)]
    exact h2 j hj
/-- a character of a text; -1 behind its end -/
def chI (A : List Nat) (k : Nat) : Int32 := if k < A.length then nI (A.getD k 0) else -1
theorem c_Sh_sg (l : Launch) (cap n : Nat) (f : Nat → Int32) (A : List Nat) (hc : cap < 2 ^ 31) (hR : sh_R cap n f A) (k : Nat) (hk : k < cap) : Con l y_Sh_signAt M_Sh_signAt 0 0 [.ref 0, .int (nI k)] (shH cap (nI n) f) 2 0 0 0 (fun r h' => r = some (.int (chI A k)) ∧ h' = shH cap (nI n) f) := by
  obtain ⟨h1, h2⟩ := hR
  refine (c_Sh_signAt l cap n f (nI k) hc (by omega)).mono ?_
  rintro r h' ⟨rfl, rfl⟩
  refine ⟨?_, rfl⟩
  rw [if_neg (nI_pos (by omega))]
  unfold chI
  by_cases q : k < A.length
  · rw [if_pos q, if_neg (nI_ge (by omega) (by omega)), nI_clamp (by omega), h2 k (by omega)]
  · rw [if_neg q, if_pos (nI_le (by omega) (by omega))]
/-- whether a text is lower, from place k on -/
def tl_lw (A B : List Nat) : Nat → Nat → Bool
  | 0, _ => false
  | q + 1, k => if chI A k = chI B k then tl_lw A B q (k + 1) else decide (chI A k < chI B k)
theorem tl_ge {a b : Int32} (h : b ≤ a) : ¬ a < b := by
  rw [Int32.lt_iff_toInt_lt]
  rw [Int32.le_iff_toInt_le] at h
  omega
theorem tl_lt {a b : Int32} (h : ¬ b ≤ a) : a < b := by
  rw [Int32.lt_iff_toInt_lt]
  rw [Int32.le_iff_toInt_le] at h
  omega
set_option maxHeartbeats 2000000 in
set_option maxRecDepth 100000 in
theorem c_Sh_isLowerThan (l : Launch) (n1 n2 : Nat) (f1 f2 : Nat → Int32) (A B : List Nat) (hA : sh_R 200 n1 f1 A) (hB : sh_R 200 n2 f2 B) : Con l y_Sh_isLowerThan M_Sh_isLowerThan 1 21 [.ref 0, .ref 2] (lwH (nI n1) f1 (nI n2) f2) 4 0 0 0 (fun r h' => r = some (.int (rb (tl_lw A B 200 0))) ∧ h' = lwH (nI n1) f1 (nI n2) f2) := by
  refine Con.ent ok_Sh_isLowerThan (by decide +kernel) rfl ?_
  intro pA eA sA mA argsA belowA methA cA GA μA
  refine aw_go 2 2 [some (.ref 0), some (.ref 2), some (.int 0), none, none] [] (lwH (nI n1) f1 (nI n2) f2) rfl ?_
  refine aw_loop (σ := Nat) (fun y => y ≤ 200 ∧ tl_lw A B (200 - y) y = tl_lw A B 200 0) (fun y => 200 - y) (fun y => [some (.ref 0), some (.ref 2), some (.int (nI y)), none, none]) (fun _ => []) (fun _ => lwH (nI n1) f1 (nI n2) f2) ?_ 0 ⟨Nat.zero_le _, rfl⟩
  rintro k ⟨hk2, hI⟩ ih
  refine aw_go 4 8 [some (.ref 0), some (.ref 2), some (.int (nI k)), none, none] [.int (nI 200), .int (nI k)] (lwH (nI n1) f1 (nI n2) f2) rfl ?_
  refine aw_cmp_ge rfl (fun h8 => ?_) (fun h8 => ?_)
  · refine aw_go 1 49 [some (.ref 0), some (.ref 2), some (.int (nI k)), none, none] [.int 0] (lwH (nI n1) f1 (nI n2) f2) rfl ?_
    exact aw_iret rfl (by decide) rfl ⟨by rw [← hI, show 200 - k = 0 from (by have h9 : ¬ k < 200 := (fun z => nI_ge (b := 200) z (by omega) h8); omega)]; rfl, rfl⟩ rfl (Nat.le_refl _) (Nat.le_refl _) -- [.int 0] (lwH (nI n1) f1 (nI n2) f2)
  · have hk : k < 200 := Nat.not_le.mp fun z => h8 (nI_le (a := 200) z (by omega))
    refine aw_go 2 13 [some (.ref 0), some (.ref 2), some (.int (nI k)), none, none] [.int (nI k), .ref 0] (lwH (nI n1) f1 (nI n2) f2) rfl ?_
    refine aw_cV [0, 1] (c_Sh_sg l 200 n1 f1 A (by omega) hA k hk) rfl cw_Sh_25 rfl rfl rfl rfl rfl rfl (Nat.le_refl _) (Nat.le_refl _) (fun r h' hp => ?_)
    obtain ⟨rfl, rfl⟩ := hp
    refine aw_go 3 19 [some (.ref 0), some (.ref 2), some (.int (nI k)), some (.int (chI A k)), none] [.int (nI k), .ref 2] (lwH (nI n1) f1 (nI n2) f2) rfl ?_
    refine aw_cV [2, 3] (c_Sh_sg l 200 n2 f2 B (by omega) hB k hk) rfl cw_Sh_25 rfl rfl rfl rfl rfl rfl (Nat.le_refl _) (Nat.le_refl _) (fun r h' hp => ?_)
    obtain ⟨rfl, rfl⟩ := hp
    refine aw_go 3 27 [some (.ref 0), some (.ref 2), some (.int (nI k)), some (.int (chI A k)), some (.int (chI B k))] [.int (chI B k), .int (chI A k)] (lwH (nI n1) f1 (nI n2) f2) rfl ?_
    refine aw_cmp_eq rfl (fun h27 => ?_) (fun h27 => ?_)
    · refine aw_go 2 2 [some (.ref 0), some (.ref 2), some (.int ((nI k) + 1)), some (.int (chI A k)), some (.int (chI B k))] [] (lwH (nI n1) f1 (nI n2) f2) rfl ?_
      -- LOOP 2: [some (.ref 0), some (.ref 2), some (.int ((nI k) + 1)), some (.int (chI A k)), some (.int (chI B k))] [] (lwH (nI n1) f1 (nI n2) f2)
      exact aw_mask [true, true, true, false, false] (aw_eq (by simp only [nI_succ]; rfl) rfl rfl (ih (k + 1) ⟨by omega, by rw [← hI, show 200 - k = (200 - (k + 1)) + 1 by omega]; simp only [tl_lw]; rw [if_pos h27]⟩ (by omega)))
    · refine aw_go 2 33 [some (.ref 0), some (.ref 2), some (.int (nI k)), some (.int (chI A k)), some (.int (chI B k))] [.int (chI B k), .int (chI A k)] (lwH (nI n1) f1 (nI n2) f2) rfl ?_
      refine aw_cmp_ge rfl (fun h33 => ?_) (fun h33 => ?_)
      · refine aw_go 1 41 [some (.ref 0), some (.ref 2), some (.int (nI k)), some (.int (chI A k)), some (.int (chI B k))] [.int 0] (lwH (nI n1) f1 (nI n2) f2) rfl ?_
        exact aw_iret rfl (by decide) rfl ⟨by rw [← hI, show 200 - k = (200 - (k + 1)) + 1 by omega]; simp only [tl_lw]; rw [if_neg h27, decide_eq_false (tl_ge h33)]; rfl, rfl⟩ rfl (Nat.le_refl _) (Nat.le_refl _) -- [.int 0] (lwH (nI n1) f1 (nI n2) f2)
      · refine aw_go 2 41 [some (.ref 0), some (.ref 2), some (.int (nI k)), some (.int (chI A k)), some (.int (chI B k))] [.int 1] (lwH (nI n1) f1 (nI n2) f2) rfl ?_
        exact aw_iret rfl (by decide) rfl ⟨by rw [← hI, show 200 - k = (200 - (k + 1)) + 1 by omega]; simp only [tl_lw]; rw [if_neg h27, decide_eq_true (tl_lt h33)]; rfl, rfl⟩ rfl (Nat.le_refl _) (Nat.le_refl _) -- [.int 1] (lwH (nI n1) f1 (nI n2) f2)
