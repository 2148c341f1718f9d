/-! Store: what is read of it, by trees -/
def tr_kd : Tr → Nat
  | .var c => c % 2
  | .op _ _ => 2
/-- X of (quote X) -/
def tr_is (c : Nat) : Tr → Bool
  | .var d => Nat.beq d c
  | .op _ _ => false
theorem tr_is_iff {c : Nat} {T : Tr} : tr_is c T = true ↔ T = .var c := by
  cases T with
  | var d =>
    simp only [tr_is, Lean.Data.AC.Expr.var.injEq]
    exact ⟨Nat.eq_of_beq_eq_true, fun e => by rw [e]; exact Nat.beq_refl c⟩
  | op a b => simp [tr_is]
def tr_q : Tr → Option Tr
  | .op a (.op x n) => if tr_is (2 * sy_quote + 1) a = true ∧ tr_is (2 * sy_nil + 1) n = true then some x else none
  | _ => none
theorem tr_q_n1 {A B : Tr} (h : A ≠ tr_quote) : tr_q (.op A B) = none := by
  cases B with
  | var c => rfl
  | op x n =>
    simp only [tr_q]
    rw [if_neg (fun z => h (tr_is_iff.mp z.1))]
theorem tr_len0 {T : Tr} (h : tr_len T = some 0) : T = tr_nil := by
  cases T with
  | var c =>
    simp only [tr_len] at h
    split at h
    · rename_i hc; rw [hc]; rfl
    · cases h
  | op a b =>
    simp only [tr_len] at h
    cases hb : tr_len b <;> rw [hb] at h <;> simp at h
theorem tr_len2 {A B : Tr} (h : tr_len (.op A B) = some 2) : ∃ X, B = .op X tr_nil := by
  simp only [tr_len] at h
  cases hb : tr_len B with
  | none => rw [hb] at h; simp at h
  | some k =>
    rw [hb] at h
    simp at h
    subst h
    cases B with
    | var c =>
      simp only [tr_len] at hb
      split at hb <;> simp at hb
    | op x n =>
      simp only [tr_len] at hb
      cases hn : tr_len n with
      | none => rw [hn] at hb; simp at hb
      | some j =>
        rw [hn] at hb
        simp at hb
        subst hb
        exact ⟨x, by rw [tr_len0 hn]⟩
theorem tr_q_n2 {A B : Tr} (h : tr_len (.op A B) ≠ some 2) : tr_q (.op A B) = none := by
  cases B with
  | var c => rfl
  | op x n =>
    simp only [tr_q]
    rw [if_neg (fun z => h (by rw [tr_is_iff.mp z.2]; rfl))]
theorem tr_q_y {A X : Tr} (h : A = tr_quote) : tr_q (.op A (.op X tr_nil)) = some X := by
  rw [h]
  rfl
theorem oI_eq {o : Option Nat} {k : Nat} (hk : k < 2 ^ 31) (hq : ∀ q, o = some q → q < 2 ^ 31) (h : oI o = nI k) : o = some k := by
  cases o with
  | none => exact absurd h.symm (nI_m1 hk)
  | some q => rw [nI_inj (hq q rfl) hk h]
theorem st_ok.node {cap n e0 : Nat} {keys : Nat → Int64} {dp ln sl : Nat → Int32} {t : Nat → Tr} (h : st_ok cap n e0 keys dp ln sl t) {i : Nat} (hi : i < n) : k_kd (keys i) = tr_kd (t i) ∧ (∀ c, t i = .var c → k_vl (keys i) = c / 2 ∧ c / 2 < 4611686018427387904) ∧ (∀ A B, t i = .op A B → ∃ a b, a < i ∧ b < i ∧ t a = A ∧ t b = B ∧ k_vl (keys i) / 1048576 = a ∧ k_vl (keys i) % 1048576 = b) := by
  have hc := h.1.cap
  have hn := h.1.2.1
  obtain ⟨-, -, -, -, g⟩ := h.2.1 i hi
  rcases g with ⟨v, g1, g2, g3⟩ | ⟨v, g1, g2, g3⟩ | ⟨a, b, g0, g1, g2, g3⟩
  · have hk := k_of (v := v) (k := 0) g1 (by omega)
    rw [g2, g3]
    refine ⟨by rw [hk.1]; show 0 = 2 * v % 2; omega, fun c e => ?_, (fun A B e => nomatch e)⟩
    cases e
    rw [hk.2]
    omega
  · have hk := k_of (v := v) (k := 1) g1 (by omega)
    rw [g2, g3]
    refine ⟨by rw [hk.1]; show 1 = (2 * v + 1) % 2; omega, fun c e => ?_, (fun A B e => nomatch e)⟩
    cases e
    rw [hk.2]
    omega
  · have hk := k_of (v := a * 1048576 + b) (k := 2) (by omega) (by omega)
    rw [g2, g3]
    refine ⟨by rw [hk.1]; rfl, (fun c e => nomatch e), fun A B e => ?_⟩
    cases e
    rw [hk.2]
    exact ⟨a, b, g0, g1, rfl, rfl, by omega, by omega⟩
theorem c_St_kd (l : Launch) (cap n : Nat) (keys : Nat → Int64) (dp ln mk pt sl : Nat → Int32) (mark : Int32) (e0 : Nat) (t : Nat → Tr) (h : st_ok cap n e0 keys dp ln sl t) (i : Nat) (hi : i < n) : Con l y_St_kindOf M_St_kindOf 1 21 [.ref 0, .int (nI i)] (stH cap keys dp ln mk pt sl (nI n) mark) 7 0 0 0 (fun r h' => r = some (.int (nI (tr_kd (t i)))) ∧ h' = stH cap keys dp ln mk pt sl (nI n) mark) := by
  refine (c_St_kindOf l cap n keys dp ln mk pt sl mark (fun i => k_kd (keys i)) (fun i => k_vl (keys i)) (st_k_all h.1.2.1 h.1.cap.2) i hi).mono ?_
  rintro r h' ⟨rfl, rfl⟩
  exact ⟨by rw [(h.node hi).1], rfl⟩
theorem c_St_vl (l : Launch) (cap n : Nat) (keys : Nat → Int64) (dp ln mk pt sl : Nat → Int32) (mark : Int32) (e0 : Nat) (t : Nat → Tr) (h : st_ok cap n e0 keys dp ln sl t) (i : Nat) (hi : i < n) (c : Nat) (hc : t i = .var c) : Con l y_St_valueOf M_St_valueOf 1 21 [.ref 0, .int (nI i)] (stH cap keys dp ln mk pt sl (nI n) mark) 7 0 0 0 (fun r h' => r = some (.long (lN (c / 2))) ∧ h' = stH cap keys dp ln mk pt sl (nI n) mark) := by
  refine (c_St_valueOf l cap n keys dp ln mk pt sl mark (fun i => k_kd (keys i)) (fun i => k_vl (keys i)) (st_k_all h.1.2.1 h.1.cap.2) i hi).mono ?_
  rintro r h' ⟨rfl, rfl⟩
  exact ⟨by rw [((h.node hi).2.1 c hc).1], rfl⟩
theorem c_St_dp (l : Launch) (cap n : Nat) (keys : Nat → Int64) (dp ln mk pt sl : Nat → Int32) (mark : Int32) (e0 : Nat) (t : Nat → Tr) (h : st_ok cap n e0 keys dp ln sl t) (i : Nat) (hi : i < n) : Con l y_St_depthOf M_St_depthOf 1 21 [.ref 0, .int (nI i)] (stH cap keys dp ln mk pt sl (nI n) mark) 7 0 0 0 (fun r h' => r = some (.int (nI (tr_dep (t i)))) ∧ h' = stH cap keys dp ln mk pt sl (nI n) mark) := by
  refine (c_St_depthOf l cap n keys dp ln mk pt sl mark (fun i => k_kd (keys i)) (fun i => k_vl (keys i)) (st_k_all h.1.2.1 h.1.cap.2) i hi).mono ?_
  rintro r h' ⟨rfl, rfl⟩
  exact ⟨by rw [(h.2.1 i hi).1], rfl⟩
theorem c_St_ln (l : Launch) (cap n : Nat) (keys : Nat → Int64) (dp ln mk pt sl : Nat → Int32) (mark : Int32) (e0 : Nat) (t : Nat → Tr) (h : st_ok cap n e0 keys dp ln sl t) (i : Nat) (hi : i < n) : Con l y_St_lengthOf M_St_lengthOf 1 21 [.ref 0, .int (nI i)] (stH cap keys dp ln mk pt sl (nI n) mark) 7 0 0 0 (fun r h' => r = some (.int (oI (tr_len (t i)))) ∧ h' = stH cap keys dp ln mk pt sl (nI n) mark) := by
  refine (c_St_lengthOf l cap n keys dp ln mk pt sl mark (fun i => k_kd (keys i)) (fun i => k_vl (keys i)) (st_k_all h.1.2.1 h.1.cap.2) i hi).mono ?_
  rintro r h' ⟨rfl, rfl⟩
  exact ⟨by rw [(h.2.1 i hi).2.2.1], rfl⟩
theorem c_St_ip (l : Launch) (cap n : Nat) (keys : Nat → Int64) (dp ln mk pt sl : Nat → Int32) (mark : Int32) (e0 : Nat) (t : Nat → Tr) (h : st_ok cap n e0 keys dp ln sl t) (i : Nat) (hi : i < n) : Con l y_St_isPair M_St_isPair 1 21 [.ref 0, .int (nI i)] (stH cap keys dp ln mk pt sl (nI n) mark) 7 0 0 0 (fun r h' => r = some (.int (rb (tr_isp (t i)))) ∧ h' = stH cap keys dp ln mk pt sl (nI n) mark) := by
  refine (c_St_isPair l cap n keys dp ln mk pt sl mark (fun i => k_kd (keys i)) (fun i => k_vl (keys i)) (st_k_all h.1.2.1 h.1.cap.2) i hi).mono ?_
  rintro r h' ⟨rfl, rfl⟩
  refine ⟨?_, rfl⟩
  rw [(h.node hi).1]
  cases ht : t i with
  | var c => rw [if_neg (by simp only [tr_kd]; omega)]; rfl
  | op a b => rw [if_pos (by simp only [tr_kd])]; rfl
theorem c_St_fst (l : Launch) (cap n : Nat) (keys : Nat → Int64) (dp ln mk pt sl : Nat → Int32) (mark : Int32) (e0 : Nat) (t : Nat → Tr) (h : st_ok cap n e0 keys dp ln sl t) (i : Nat) (hi : i < n) (A B : Tr) (hT : t i = .op A B) : Con l y_St_firstOf M_St_firstOf 2 42 [.ref 0, .int (nI i)] (stH cap keys dp ln mk pt sl (nI n) mark) 7 0 0 0 (fun r h' => ∃ a, a < i ∧ t a = A ∧ r = some (.int (nI a)) ∧ h' = stH cap keys dp ln mk pt sl (nI n) mark) := by
  refine (c_St_firstOf l cap n keys dp ln mk pt sl mark (fun i => k_kd (keys i)) (fun i => k_vl (keys i)) (st_k_all h.1.2.1 h.1.cap.2) i hi).mono ?_
  rintro r h' ⟨rfl, rfl⟩
  obtain ⟨a, b, h1, h2, h3, h4, h5, h6⟩ := (h.node hi).2.2 A B hT
  exact ⟨a, h1, h3, by rw [(h.node hi).1, hT, if_pos (show tr_kd (.op A B) = 2 from rfl), h5], rfl⟩
theorem c_St_fst0 (l : Launch) (cap n : Nat) (keys : Nat → Int64) (dp ln mk pt sl : Nat → Int32) (mark : Int32) (e0 : Nat) (t : Nat → Tr) (h : st_ok cap n e0 keys dp ln sl t) (i : Nat) (hi : i < n) (c : Nat) (hT : t i = .var c) : Con l y_St_firstOf M_St_firstOf 2 42 [.ref 0, .int (nI i)] (stH cap keys dp ln mk pt sl (nI n) mark) 7 0 0 0 (fun r h' => r = some (.int 0) ∧ h' = stH cap keys dp ln mk pt sl (nI n) mark) := by
  refine (c_St_firstOf l cap n keys dp ln mk pt sl mark (fun i => k_kd (keys i)) (fun i => k_vl (keys i)) (st_k_all h.1.2.1 h.1.cap.2) i hi).mono ?_
  rintro r h' ⟨rfl, rfl⟩
  exact ⟨by rw [(h.node hi).1, hT, if_neg (by simp only [tr_kd]; omega)], rfl⟩
theorem c_St_snd (l : Launch) (cap n : Nat) (keys : Nat → Int64) (dp ln mk pt sl : Nat → Int32) (mark : Int32) (e0 : Nat) (t : Nat → Tr) (h : st_ok cap n e0 keys dp ln sl t) (i : Nat) (hi : i < n) (A B : Tr) (hT : t i = .op A B) : Con l y_St_secondOf M_St_secondOf 2 42 [.ref 0, .int (nI i)] (stH cap keys dp ln mk pt sl (nI n) mark) 7 0 0 0 (fun r h' => ∃ a, a < i ∧ t a = B ∧ r = some (.int (nI a)) ∧ h' = stH cap keys dp ln mk pt sl (nI n) mark) := by
  refine (c_St_secondOf l cap n keys dp ln mk pt sl mark (fun i => k_kd (keys i)) (fun i => k_vl (keys i)) (st_k_all h.1.2.1 h.1.cap.2) i hi).mono ?_
  rintro r h' ⟨rfl, rfl⟩
  obtain ⟨a, b, h1, h2, h3, h4, h5, h6⟩ := (h.node hi).2.2 A B hT
  exact ⟨b, h2, h4, by rw [(h.node hi).1, hT, if_pos (show tr_kd (.op A B) = 2 from rfl), h6], rfl⟩
theorem c_St_snd0 (l : Launch) (cap n : Nat) (keys : Nat → Int64) (dp ln mk pt sl : Nat → Int32) (mark : Int32) (e0 : Nat) (t : Nat → Tr) (h : st_ok cap n e0 keys dp ln sl t) (i : Nat) (hi : i < n) (c : Nat) (hT : t i = .var c) : Con l y_St_secondOf M_St_secondOf 2 42 [.ref 0, .int (nI i)] (stH cap keys dp ln mk pt sl (nI n) mark) 7 0 0 0 (fun r h' => r = some (.int 0) ∧ h' = stH cap keys dp ln mk pt sl (nI n) mark) := by
  refine (c_St_secondOf l cap n keys dp ln mk pt sl mark (fun i => k_kd (keys i)) (fun i => k_vl (keys i)) (st_k_all h.1.2.1 h.1.cap.2) i hi).mono ?_
  rintro r h' ⟨rfl, rfl⟩
  exact ⟨by rw [(h.node hi).1, hT, if_neg (by simp only [tr_kd]; omega)], rfl⟩
set_option maxHeartbeats 2000000 in
set_option maxRecDepth 100000 in
theorem c_St_quotedIn_0 (l : Launch) (cap n : Nat) (keys : Nat → Int64) (dp ln mk pt sl : Nat → Int32) (mark : Int32) (e0 : Nat) (t : Nat → Tr) (h : st_ok cap n e0 keys dp ln sl t) (i : Nat) (hi : i < n) (c : Nat) (hT : t i = .var c) : Con l y_St_quotedIn M_St_quotedIn 3 63 [.ref 0, .int (nI i)] (stH cap keys dp ln mk pt sl (nI n) mark) 7 0 0 0 (fun r h' => ((tr_q (t i) = none ∧ r = some (.int (-1))) ∨ ∃ x, x < i ∧ tr_q (t i) = some (t x) ∧ r = some (.int (nI x))) ∧ h' = stH cap keys dp ln mk pt sl (nI n) mark) := by
  refine Con.ent ok_St_quotedIn (by decide +kernel) rfl ?_
  intro pA eA sA mA argsA belowA methA cA GA μA
  refine aw_go 2 2 [some (.ref 0), some (.int (nI i))] [.int (nI i), .ref 0] (stH cap keys dp ln mk pt sl (nI n) mark) rfl ?_
  refine aw_cV [0, 1, 2, 3, 4, 5, 6] (c_St_fst0 l cap n keys dp ln mk pt sl mark e0 t h i hi c hT) rfl cw_St_93 rfl rfl rfl rfl rfl rfl (Nat.le_refl _) (Nat.le_refl _) (fun r h' hp => ?_)
  obtain ⟨rfl, rfl⟩ := hp
  refine aw_go 1 6 [some (.ref 0), some (.int (nI i))] [.int 1, .int 0] (stH cap keys dp ln mk pt sl (nI n) mark) rfl ?_
  refine aw_cmp_ne rfl (fun h6 => ?_) (fun h6 => absurd h6 (by decide))
  refine aw_go 1 19 [some (.ref 0), some (.int (nI i))] [.int (-1)] (stH cap keys dp ln mk pt sl (nI n) mark) rfl ?_
  exact aw_iret rfl rfl rfl ⟨Or.inl ⟨by rw [hT]; rfl, rfl⟩, rfl⟩ rfl (Nat.le_refl _) (Nat.le_refl _) -- [.int (-1)] (stH cap keys dp ln mk pt sl (nI n) mark)
set_option maxHeartbeats 2000000 in
set_option maxRecDepth 100000 in
theorem c_St_quotedIn_1 (l : Launch) (cap n : Nat) (keys : Nat → Int64) (dp ln mk pt sl : Nat → Int32) (mark : Int32) (e0 : Nat) (t : Nat → Tr) (h : st_ok cap n e0 keys dp ln sl t) (i : Nat) (hi : i < n) (A B : Tr) (hT : t i = .op A B) : Con l y_St_quotedIn M_St_quotedIn 3 63 [.ref 0, .int (nI i)] (stH cap keys dp ln mk pt sl (nI n) mark) 7 0 0 0 (fun r h' => ((tr_q (t i) = none ∧ r = some (.int (-1))) ∨ ∃ x, x < i ∧ tr_q (t i) = some (t x) ∧ r = some (.int (nI x))) ∧ h' = stH cap keys dp ln mk pt sl (nI n) mark) := by
  refine Con.ent ok_St_quotedIn (by decide +kernel) rfl ?_
  intro pA eA sA mA argsA belowA methA cA GA μA
  refine aw_go 2 2 [some (.ref 0), some (.int (nI i))] [.int (nI i), .ref 0] (stH cap keys dp ln mk pt sl (nI n) mark) rfl ?_
  refine aw_cV [0, 1, 2, 3, 4, 5, 6] (c_St_fst l cap n keys dp ln mk pt sl mark e0 t h i hi A B hT) rfl cw_St_93 rfl rfl rfl rfl rfl rfl (Nat.le_refl _) (Nat.le_refl _) (fun r h' hp => ?_)
  obtain ⟨a, ha, hta, rfl, rfl⟩ := hp
  refine aw_go 1 6 [some (.ref 0), some (.int (nI i))] [.int 1, .int (nI a)] (stH cap keys dp ln mk pt sl (nI n) mark) rfl ?_
  refine aw_cmp_ne rfl (fun h6 => ?_) (fun h6 => ?_)
  · refine aw_go 1 19 [some (.ref 0), some (.int (nI i))] [.int (-1)] (stH cap keys dp ln mk pt sl (nI n) mark) rfl ?_
    exact aw_iret rfl rfl rfl ⟨Or.inl ⟨by rw [hT]; exact tr_q_n1 (fun z => h6 (by rw [h.inj n a 1 (by omega) (by omega) (by have := h.2.2.1; omega) (by rw [hta, z, h.2.2.2.2])]; rfl)), rfl⟩, rfl⟩ rfl (Nat.le_refl _) (Nat.le_refl _) -- [.int (-1)] (stH cap keys dp ln mk pt sl (nI n) mark)
  · refine aw_go 2 11 [some (.ref 0), some (.int (nI i))] [.int (nI i), .ref 0] (stH cap keys dp ln mk pt sl (nI n) mark) rfl ?_
    refine aw_cV [0, 1, 2, 3, 4, 5, 6] (c_St_ln l cap n keys dp ln mk pt sl mark e0 t h i hi) rfl cw_St_73 rfl rfl rfl rfl rfl rfl (Nat.le_refl _) (Nat.le_refl _) (fun r h' hp => ?_)
    obtain ⟨rfl, rfl⟩ := hp
    refine aw_go 1 15 [some (.ref 0), some (.int (nI i))] [.int 2, .int (oI (tr_len (t i)))] (stH cap keys dp ln mk pt sl (nI n) mark) rfl ?_
    refine aw_cmp_eq rfl (fun h15 => ?_) (fun h15 => ?_)
    · have hcap := h.1.cap
      have hn := h.1.2.1
      have ha1 : a = 1 := nI_inj (by omega) (by omega) h6
      obtain ⟨X, hXN⟩ : ∃ X, B = .op X tr_nil := tr_len2 (A := A) (by rw [hT] at h15; exact oI_eq (k := 2) (by omega) (fun q hq => by have := (h.2.1 i hi).2.2.2.1 q (by rw [hT]; exact hq); omega) h15)
      obtain ⟨N, hN⟩ : ∃ N, N = tr_nil := ⟨_, rfl⟩
      refine aw_go 3 23 [some (.ref 0), some (.int (nI i))] [.int (nI i), .ref 0, .ref 0] (stH cap keys dp ln mk pt sl (nI n) mark) rfl ?_
      refine aw_cV [0, 1, 2, 3, 4, 5, 6] (c_St_snd l cap n keys dp ln mk pt sl mark e0 t h i hi A B hT) rfl cw_St_96 rfl rfl rfl rfl rfl rfl (Nat.le_refl _) (Nat.le_refl _) (fun r h' hp => ?_)
      obtain ⟨b, hb, htb, rfl, rfl⟩ := hp
      refine aw_go 0 26 [some (.ref 0), some (.int (nI i))] [.int (nI b), .ref 0] (stH cap keys dp ln mk pt sl (nI n) mark) rfl ?_
      have hX : t b = .op X N := by rw [htb, hXN, hN]
      refine aw_cV [0, 1, 2, 3, 4, 5, 6] (c_St_fst l cap n keys dp ln mk pt sl mark e0 t h b (by omega) X N hX) rfl cw_St_93 rfl rfl rfl rfl rfl rfl (Nat.le_refl _) (Nat.le_refl _) (fun r h' hp => ?_)
      obtain ⟨x, hx, htx, rfl, rfl⟩ := hp
      refine aw_go 0 29 [some (.ref 0), some (.int (nI i))] [.int (nI x)] (stH cap keys dp ln mk pt sl (nI n) mark) rfl ?_
      exact aw_iret rfl rfl rfl ⟨Or.inr ⟨x, by omega, by rw [hT, hXN, htx]; exact tr_q_y (by rw [← hta, ha1]; exact h.2.2.2.2), rfl⟩, rfl⟩ rfl (Nat.le_refl _) (Nat.le_refl _) -- [.int (nI x)] (stH cap keys dp ln mk pt sl (nI n) mark)
    · refine aw_go 1 19 [some (.ref 0), some (.int (nI i))] [.int (-1)] (stH cap keys dp ln mk pt sl (nI n) mark) rfl ?_
      exact aw_iret rfl rfl rfl ⟨Or.inl ⟨by rw [hT]; exact tr_q_n2 (fun z => h15 (by rw [hT, z]; rfl)), rfl⟩, rfl⟩ rfl (Nat.le_refl _) (Nat.le_refl _) -- [.int (-1)] (stH cap keys dp ln mk pt sl (nI n) mark)
theorem c_St_quotedIn (l : Launch) (cap n : Nat) (keys : Nat → Int64) (dp ln mk pt sl : Nat → Int32) (mark : Int32) (e0 : Nat) (t : Nat → Tr) (h : st_ok cap n e0 keys dp ln sl t) (i : Nat) (hi : i < n) : Con l y_St_quotedIn M_St_quotedIn 3 63 [.ref 0, .int (nI i)] (stH cap keys dp ln mk pt sl (nI n) mark) 7 0 0 0 (fun r h' => ((tr_q (t i) = none ∧ r = some (.int (-1))) ∨ ∃ x, x < i ∧ tr_q (t i) = some (t x) ∧ r = some (.int (nI x))) ∧ h' = stH cap keys dp ln mk pt sl (nI n) mark) := by
  cases hT : t i with
  | var c => rw [← hT]; exact c_St_quotedIn_0 l cap n keys dp ln mk pt sl mark e0 t h i hi c hT
  | op A B => rw [← hT]; exact c_St_quotedIn_1 l cap n keys dp ln mk pt sl mark e0 t h i hi A B hT
