/-! Words: goOn: the next word from p on begins at s = tk_sk .. -/
theorem tk_sk_le (T : Nat → Nat) : ∀ (q p : Nat) (b : Bool), p ≤ tk_sk T q p b ∧ tk_sk T q p b ≤ p + q := by
  intro q
  induction q with
  | zero => intro p b; exact ⟨Nat.le_refl _, Nat.le_refl _⟩
  | succ q ih =>
    intro p b
    unfold tk_sk
    split
    · have := ih (p + 1) false; omega
    · split
      · have := ih (p + 1) true; omega
      · split
        · have := ih (p + 1) b; omega
        · omega
theorem tk_kd_lt (T : Nat → Nat) (L s : Nat) : tk_kd T L s < 8 := by
  unfold tk_kd
  repeat' split
  all_goals omega
def tk_nx (T : Nat → Nat) (L s : Nat) : Nat := if tk_kd T L s = 7 then (tk_run T (L - s) s true).1 else if tk_kd T L s = 0 then s else s + 1
def tk_kn (T : Nat → Nat) (L s : Nat) : Nat := if tk_kd T L s = 7 then (if (tk_run T (L - s) s true).2 = true then 6 else 7) else tk_kd T L s
def tk_vl (T : Nat → Nat) (L s : Nat) (vu : Int64) : Int64 := if tk_kd T L s = 7 then tk_av T s (tk_run T (L - s) s true) else vu
theorem tk_nx_7 {T : Nat → Nat} {L s : Nat} (h : tk_kd T L s = 7) : tk_nx T L s = (tk_run T (L - s) s true).1 := by unfold tk_nx; rw [if_pos h]
theorem tk_nx_0 {T : Nat → Nat} {L s : Nat} (h : tk_kd T L s = 0) : tk_nx T L s = s := by unfold tk_nx; rw [if_neg (by omega), if_pos h]
theorem tk_nx_n {T : Nat → Nat} {L s : Nat} (h : ¬ tk_kd T L s = 7) (h0 : ¬ tk_kd T L s = 0) : tk_nx T L s = s + 1 := by unfold tk_nx; rw [if_neg h, if_neg h0]
theorem tk_kn_7 {T : Nat → Nat} {L s : Nat} (h : tk_kd T L s = 7) : tk_kn T L s = if (tk_run T (L - s) s true).2 = true then 6 else 7 := by unfold tk_kn; rw [if_pos h]
theorem tk_kn_n {T : Nat → Nat} {L s : Nat} (h : ¬ tk_kd T L s = 7) : tk_kn T L s = tk_kd T L s := by unfold tk_kn; rw [if_neg h]
theorem tk_vl_7 {T : Nat → Nat} {L s : Nat} {vu : Int64} (h : tk_kd T L s = 7) : tk_vl T L s vu = tk_av T s (tk_run T (L - s) s true) := by unfold tk_vl; rw [if_pos h]
theorem tk_vl_n {T : Nat → Nat} {L s : Nat} {vu : Int64} (h : ¬ tk_kd T L s = 7) : tk_vl T L s vu = vu := by unfold tk_vl; rw [if_neg h]
set_option maxHeartbeats 2000000 in
set_option maxRecDepth 100000 in
theorem c_Wd_goOn (l : Launch) (f wa : Nat → Int32) (L : Nat) (T : Nat → Nat) (hT : tx_T f T L) (p : Nat) (hpL : p ≤ L) (sa kn : Int32) (vu : Int64) : Con l y_Wd_goOn M_Wd_goOn 7 159 [.ref 0] (wdH (nI p) sa kn vu f wa (nI L)) 4 0 0 0 (fun r h' => r = none ∧ h' = wdH (nI (tk_nx T L (tk_sk T (L - p) p false))) (nI (tk_sk T (L - p) p false)) (nI (tk_kn T L (tk_sk T (L - p) p false))) (tk_vl T L (tk_sk T (L - p) p false) vu) f wa (nI L)) := by
  refine Con.ent ok_Wd_goOn (by decide +kernel) rfl ?_
  intro pA eA sA mA argsA belowA methA cA GA μA
  have hL := hT.1
  have hsL := tk_sk_le T (L - p) p false
  rw [show p + (L - p) = L by omega] at hsL
  have hsL := hsL.2
  have hk8 : ∀ s, tk_kd T L s < 8 := tk_kd_lt T L
  refine aw_go 1 1 [some (.ref 0)] [.ref 0] (wdH (nI p) sa kn vu f wa (nI L)) rfl ?_
  refine aw_cV [0, 1, 2, 3] (c_Wd_skipBlanks l f wa L T hT p hpL sa kn vu) rfl cw_Wd_19 rfl rfl rfl rfl rfl rfl (Nat.le_refl _) (Nat.le_refl _) (fun r h' hp => ?_)
  obtain ⟨rfl, rfl⟩ := hp
  generalize hs : tk_sk T (L - p) p false = s at hsL ⊢
  refine aw_go 8 18 [some (.ref 0)] [.int (nI s), .ref 0, .ref 0] (wdH (nI s) (nI s) kn vu f wa (nI L)) rfl ?_
  refine aw_cV [0, 1, 2, 3] (c_Wd_kindAt l f wa L T hT s hsL (nI s) (nI s) kn vu) rfl cw_Wd_25 rfl rfl rfl rfl rfl rfl (Nat.le_refl _) (Nat.le_refl _) (fun r h' hp => ?_)
  obtain ⟨rfl, rfl⟩ := hp
  refine aw_go 3 28 [some (.ref 0)] [.int (nI (tk_kd T L s))] (wdH (nI s) (nI s) (nI (tk_kd T L s)) vu f wa (nI L)) rfl ?_
  have hk8 := hk8 s
  refine aw_go 1 30 [some (.ref 0)] [.int 7, .int (nI (tk_kd T L s))] (wdH (nI s) (nI s) (nI (tk_kd T L s)) vu f wa (nI L)) rfl ?_
  refine aw_cmp_ne rfl (fun h30 => ?_) (fun h30 => ?_)
  · refine aw_go 2 44 [some (.ref 0)] [.int (nI (tk_kd T L s))] (wdH (nI s) (nI s) (nI (tk_kd T L s)) vu f wa (nI L)) rfl ?_
    refine aw_if_eq rfl (fun h44 => ?_) (fun h44 => ?_)
    · exact aw_vret rfl rfl ⟨rfl, by rw [tk_nx_0 (tk_c (by omega) (by omega) h44), tk_kn_n (by have := tk_c (k := 0) (by omega) (by omega) h44; omega), tk_vl_n (by have := tk_c (k := 0) (by omega) (by omega) h44; omega)]⟩ rfl (Nat.le_refl _) (Nat.le_refl _) -- [] (wdH (nI s) (nI s) (nI (tk_kd T L s)) vu f wa (nI L))
    · refine aw_go 6 57 [some (.ref 0)] [] (wdH ((nI s) + 1) (nI s) (nI (tk_kd T L s)) vu f wa (nI L)) rfl ?_
      exact aw_vret rfl rfl ⟨rfl, by rw [tk_nx_n (tk_n (k := 7) h30) (tk_n (k := 0) h44), tk_kn_n (tk_n (k := 7) h30), tk_vl_n (tk_n (k := 7) h30), nI_succ]⟩ rfl (Nat.le_refl _) (Nat.le_refl _) -- [] (wdH ((nI s) + 1) (nI s) (nI (tk_kd T L s)) vu f wa (nI L))
  · refine aw_go 1 34 [some (.ref 0)] [.ref 0] (wdH (nI s) (nI s) (nI (tk_kd T L s)) vu f wa (nI L)) rfl ?_
    refine aw_cV [0, 1, 2, 3] (c_Wd_takeAtom l f wa L T hT s hsL (nI (tk_kd T L s)) vu) rfl cw_Wd_32 rfl rfl rfl rfl rfl rfl (Nat.le_refl _) (Nat.le_refl _) (fun r h' hp => ?_)
    obtain ⟨rfl, rfl⟩ := hp
    refine aw_go 1 57 [some (.ref 0)] [] (wdH (nI (tk_run T (L - s) s true).1) (nI s) (if (tk_run T (L - s) s true).2 = true then 6 else 7) (tk_av T s (tk_run T (L - s) s true)) f wa (nI L)) rfl ?_
    exact aw_vret rfl rfl ⟨rfl, by rw [tk_nx_7 (tk_c (k := 7) (by omega) (by omega) h30), tk_kn_7 (tk_c (k := 7) (by omega) (by omega) h30), tk_vl_7 (tk_c (k := 7) (by omega) (by omega) h30)]; split <;> rfl⟩ rfl (Nat.le_refl _) (Nat.le_refl _) -- [] (wdH (nI (tk_run T (L - s) s true).1) (nI s) (if (tk_run T (L - s) s true).2 = true then 6 else 7) (tk_av T s (tk_run T (L - s) s true)) f wa (nI L))
