/-! Reader: takeWord -/
theorem rd_cs_n {k sg : Nat} (hk : 2 ≤ k ∧ k ≤ 7) (h1 : k ≠ 3 ∧ k ≠ 5) (h : rd_cs k sg = true) : sg ≠ 1 ∧ sg ≠ 6 := by
  unfold rd_cs at h
  rw [if_neg (by omega), if_neg (by omega), if_neg (by omega)] at h
  exact of_decide_eq_true h
theorem rd_cs_3 {sg : Nat} (h : rd_cs 3 sg = true) : sg = 3 ∨ sg = 4 ∨ sg = 6 := by
  unfold rd_cs at h
  rw [if_neg (by omega), if_neg (by omega), if_pos rfl] at h
  exact of_decide_eq_true h
theorem rd_cs_5 {sg : Nat} (h : rd_cs 5 sg = true) : sg = 4 := by
  unfold rd_cs at h
  rw [if_neg (by omega), if_pos rfl] at h
  exact of_decide_eq_true h
theorem rd_cs_c {k sg : Nat} (h1 : k = 3 ∨ k = 5) (h : rd_cs k sg = true) : 3 ≤ sg := by
  rcases h1 with rfl | rfl
  · have := rd_cs_3 h; omega
  · have := rd_cs_5 h; omega
theorem rd_dn {lv hd : Nat} {res : Int32} {sta bas obj : Nat → Int32} {t : Nat → Tr} {n : Nat} {fs : List Fr} {dn : Option Tr} (h : rd_R lv hd res sta bas obj t n fs dn) (hs : ps_sg fs dn ≠ 1 ∧ ps_sg fs dn ≠ 6) : dn = none ∧ ps_sg fs dn ≠ 6 := by
  refine ⟨?_, hs.2⟩
  cases dn with
  | none => rfl
  | some T =>
    obtain ⟨h1, -⟩ := h.2.2.2.2.2.2.2.1 T rfl
    subst h1
    exact absurd rfl hs.1
theorem rd_cn {lv hd : Nat} {res : Int32} {sta bas obj : Nat → Int32} {t : Nat → Tr} {n : Nat} {fs : List Fr} {dn : Option Tr} (h : rd_R lv hd res sta bas obj t n fs dn) (hs : 3 ≤ ps_sg fs dn) : ∃ x r, fs = x :: r ∧ dn = none := by
  cases fs with
  | nil =>
    cases dn with
    | none => exact absurd hs (by decide)
    | some T => exact absurd hs (by show ¬ 3 ≤ 1; omega)
  | cons x r =>
    refine ⟨x, r, rfl, ?_⟩
    cases dn with
    | none => rfl
    | some T => obtain ⟨h1, -⟩ := h.2.2.2.2.2.2.2.1 T rfl; cases h1
theorem ps_del_ob : ∀ (fs : List Fr) (T : Tr), (∀ x ∈ fs, fr_ok x) → (fs_ob (ps_del fs T).1).length ≤ (fs_ob fs).length + 1 := by
  intro fs
  induction fs with
  | nil => intro T _; exact Nat.zero_le _
  | cons x r ih =>
    intro T hok
    simp only [ps_del]
    split
    · have := ih (.op tr_quote (.op T tr_nil)) (fun y hy => hok y (List.mem_cons_of_mem _ hy))
      simp only [fs_ob, List.length_append]
      omega
    · split
      · rename_i h2
        simp [fs_ob, fr_ob, h2]
        omega
      · simp only [fs_ob, fr_ob, List.length_append]
        split <;> simp <;> omega
theorem ps_step_ob (fs : List Fr) (dn : Option Tr) (k : Nat) (T : Tr) (hok : ∀ x ∈ fs, fr_ok x) (hs : k = 5 → ps_sg fs dn = 4) : (fs_ob (ps_step fs dn k T).1).length ≤ (fs_ob fs).length + 1 := by
  unfold ps_step
  split
  · simp [fs_ob, fr_ob]
  · split
    · simp [fs_ob, fr_ob]
    · split
      · cases fs with
        | nil => simp
        | cons x r =>
          simp only [fs_ob, fr_ob, List.length_append]
          rw [if_neg (by decide)]
          simp only [List.length_nil]
          omega
      · split
        · cases fs with
          | nil => simp
          | cons x r =>
            have := ps_del_ob r (fr_tr x) (fun y hy => hok y (List.mem_cons_of_mem _ hy))
            simp only [fs_ob, List.length_append]
            omega
        · exact ps_del_ob fs T hok
set_option maxHeartbeats 1000000 in
/-- takeWord: the frames step -/
theorem c_Rd_takeWord (l : Launch) (res lf lp nx sa len mark : Int32) (vu : Int64) (cap : Nat) (keys : Nat → Int64) (sta bas obj f wa dp ln mk pt sl : Nat → Int32) (n e0 : Nat) (t : Nat → Tr) (h : st_ok cap n e0 keys dp ln sl t) (lv hd : Nat) (fs : List Fr) (dn : Option Tr) (hR : rd_R lv hd res sta bas obj t n fs dn) (hhd : hd < 1000) (hcap : n + hd + fs_pot fs + 2 ≤ cap) (T : Tr) (k : Nat) (hk : 2 ≤ k ∧ k ≤ 7) (hT6 : k = 6 → ∃ v, v < 4611686018427387904 ∧ vu = lN v ∧ T = tr_nat v) (hT7 : k = 7 → ∃ v, v < 4611686018427387904 ∧ vu = lN v ∧ T = tr_sym v) (hcs : rd_cs k (ps_sg fs dn) = true) (hop : k = 2 ∨ k = 4 → lv < 40) : Con l y_Rd_takeWord M_Rd_takeWord 4 102 [.ref 0] (rdH (nI lv) (nI hd) res lf lp sta bas obj nx sa (nI k) vu f wa len cap keys dp ln mk pt sl (nI n) mark) 15 0 0 0 (fun r h' => r = none ∧ ∃ (lv2 hd2 : Nat) (res2 : Int32) (sta2 bas2 obj2 : Nat → Int32) (n2 : Nat) (keys2 : Nat → Int64) (dp2 ln2 sl2 : Nat → Int32) (t2 : Nat → Tr), st_ok cap n2 e0 keys2 dp2 ln2 sl2 t2 ∧ rd_R lv2 hd2 res2 sta2 bas2 obj2 t2 n2 (ps_step fs dn k T).1 (ps_step fs dn k T).2 ∧ n ≤ n2 ∧ (∀ i, i < n → t2 i = t i) ∧ n2 + hd2 + fs_pot (ps_step fs dn k T).1 ≤ n + hd + fs_pot fs + 2 ∧ h' = rdH (nI lv2) (nI hd2) res2 lf lp sta2 bas2 obj2 nx sa (nI k) vu f wa len cap keys2 dp2 ln2 mk pt sl2 (nI n2) mark) := by
  have hdn : k ≠ 3 ∧ k ≠ 5 → dn = none ∧ ps_sg fs dn ≠ 6 := fun h1 => rd_dn hR (rd_cs_n hk h1 hcs)
  have hcons : k = 3 ∨ k = 5 → ∃ x r, fs = x :: r ∧ dn = none := fun h1 => rd_cn hR (rd_cs_c h1 hcs)
  rcases (show k = 2 ∨ k = 3 ∨ k = 4 ∨ k = 5 ∨ k = 6 ∨ k = 7 by omega) with rfl | rfl | rfl | rfl | rfl | rfl
  · obtain ⟨rfl, h6⟩ := hdn (by decide)
    exact c_Rd_takeWord_2 l res lf lp nx sa len mark vu cap keys sta bas obj f wa dp ln mk pt sl n e0 t h lv hd fs hR hhd hcap T h6 (hop (Or.inl rfl))
  · obtain ⟨x, r0, rfl, rfl⟩ := hcons (Or.inl rfl)
    have hsg3 : fr_sg x = 3 ∨ fr_sg x = 4 ∨ fr_sg x = 6 := rd_cs_3 hcs
    obtain ⟨q1, -, -, -, -, -, -, q8⟩ := hR.clo hsg3
    rcases q8 with ⟨a, -, b⟩ | ⟨a, -, b, -⟩
    · exact c_Rd_takeWord_3p l res lf lp nx sa len mark vu cap keys sta bas obj f wa dp ln mk pt sl n e0 t h lv hd x r0 hR hhd hcap T hsg3 a q1 b
    · exact c_Rd_takeWord_3d l res lf lp nx sa len mark vu cap keys sta bas obj f wa dp ln mk pt sl n e0 t h lv hd x r0 hR hhd hcap T hsg3 a q1 b
  · obtain ⟨rfl, h6⟩ := hdn (by decide)
    exact c_Rd_takeWord_4 l res lf lp nx sa len mark vu cap keys sta bas obj f wa dp ln mk pt sl n e0 t h lv hd fs hR hhd hcap T h6 (hop (Or.inr rfl))
  · obtain ⟨x, r0, rfl, rfl⟩ := hcons (Or.inr rfl)
    exact c_Rd_takeWord_5 l res lf lp nx sa len mark vu cap keys sta bas obj f wa dp ln mk pt sl n e0 t h lv hd x r0 hR hhd hcap T (rd_cs_5 hcs)
  · obtain ⟨rfl, h6⟩ := hdn (by decide)
    obtain ⟨v, hv, rfl, hTv⟩ := hT6 rfl
    exact c_Rd_takeWord_6 l res lf lp nx sa len mark (lN v) cap keys sta bas obj f wa dp ln mk pt sl n e0 t h lv hd fs hR hhd hcap T h6 v hv hTv
  · obtain ⟨rfl, h6⟩ := hdn (by decide)
    obtain ⟨v, hv, rfl, hTv⟩ := hT7 rfl
    exact c_Rd_takeWord_7 l res lf lp nx sa len mark (lN v) cap keys sta bas obj f wa dp ln mk pt sl n e0 t h lv hd fs hR hhd hcap T h6 v hv hTv
