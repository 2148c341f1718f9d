/-! the model: telling -/
theorem sh_R.add {cap k : Nat} {f : Nat → Int32} {acc : List Nat} {c : Nat} (h : sh_R cap k f acc) : (k < cap → sh_R cap (k + 1) (upd f k (nI c)) (acc ++ [c])) ∧ (¬ k < cap → sh_R cap k f (acc ++ [c])) := by
  obtain ⟨h1, h2⟩ := h
  refine ⟨fun q => ?_, fun q => ?_⟩
  · refine ⟨by rw [List.length_append, List.length_singleton]; omega, fun j hj => ?_⟩
    have hn : k = acc.length := by omega
    by_cases e : j = k
    · subst e
      rw [pk_us, hn, getD_end]
    · rw [pk_un e, getD_appN (by omega)]
      exact h2 j (by omega)
  · refine ⟨by rw [List.length_append]; omega, fun j hj => ?_⟩
    rw [getD_appN (by omega)]
    exact h2 j hj
theorem mo_tb.n16 {n ns : Nat} {lf rt nx hg : Nat → Int32} {nu : Nat → Int64} {hd nm le : Nat → Int32} {t : Nat → Tr} (hm : mo_tb n ns lf rt nx hg nu hd nm le t) : n ≤ 16000 ∧ ns ≤ 3000 := by
  obtain ⟨sw, hh, h⟩ := hm
  exact h.1
theorem mo_tb.inj {n ns : Nat} {lf rt nx hg : Nat → Int32} {nu : Nat → Int64} {hd nm le : Nat → Int32} {t : Nat → Tr} (hm : mo_tb n ns lf rt nx hg nu hd nm le t) {i j : Nat} (hi : i < n) (hj : j < n) (e : t i = t j) : i = j := by
  obtain ⟨sw, hh, h⟩ := hm
  exact h.2.2.2.1 i j hi hj e
theorem mo_tb.pr {n ns : Nat} {lf rt nx hg : Nat → Int32} {nu : Nat → Int64} {hd nm le : Nat → Int32} {t : Nat → Tr} (hm : mo_tb n ns lf rt nx hg nu hd nm le t) {k : Nat} {A B : Tr} (hk : k < n) (hT : t k = .op A B) : ∃ a b, a < k ∧ b < k ∧ lf k = nI a ∧ rt k = nI b ∧ t a = A ∧ t b = B := by
  obtain ⟨sw, hh, h⟩ := hm
  obtain ⟨-, -, g⟩ := h.2.1 k hk
  rcases g with ⟨g1, v, -, -, g3, -⟩ | ⟨g1, s, -, -, g3, -⟩ | ⟨a, b, g1, g2, g3, g4, g5, g6⟩
  · rw [hT] at g3; cases g3
  · rw [hT] at g3; cases g3
  · rw [hT] at g5
    injection g5 with z1 z2
    exact ⟨a, b, g1, g2, g3, g4, z1.symm, z2.symm⟩
theorem mo_tb.at {n ns : Nat} {lf rt nx hg : Nat → Int32} {nu : Nat → Int64} {hd nm le : Nat → Int32} {t : Nat → Tr} (hm : mo_tb n ns lf rt nx hg nu hd nm le t) {k c : Nat} (hk : k < n) (hT : t k = .var c) : (lf k = -1 ∧ ∃ v, v < 4611686018427387904 ∧ nu k = lN v ∧ c = 2 * v) ∨ (lf k = -2 ∧ ∃ s w, s < ns ∧ rt k = nI s ∧ mo_sy nm le s w ∧ c = 2 * wc w + 1) := by
  obtain ⟨sw, hh, h⟩ := hm
  obtain ⟨-, -, g⟩ := h.2.1 k hk
  rcases g with ⟨g1, v, g2, g3, g4, -⟩ | ⟨g1, s, g2, g3, g4, -⟩ | ⟨a, b, g1, g2, g3, g4, g5, g6⟩
  · rw [hT] at g4
    injection g4 with z
    exact Or.inl ⟨g1, v, g2, g3, z⟩
  · rw [hT] at g4
    injection g4 with z
    exact Or.inr ⟨g1, s, sw s, g2, g3, h.2.2.1 s g2, z⟩
  · rw [hT] at g5; cases g5
theorem mo_tb.dep {n ns : Nat} {lf rt nx hg : Nat → Int32} {nu : Nat → Int64} {hd nm le : Nat → Int32} {t : Nat → Tr} (hm : mo_tb n ns lf rt nx hg nu hd nm le t) {k : Nat} (hk : k < n) : hg k = nI (tr_dep (t k)) ∧ tr_dep (t k) ≤ k := by
  obtain ⟨sw, hh, h⟩ := hm
  exact ⟨(h.2.1 k hk).1, (h.2.1 k hk).2.1⟩
theorem mo_lt {x : Int32} (h : x = -1 ∨ x = -2) : x < 0 := by rcases h with rfl | rfl <;> decide
theorem tr_q_op {A B X : Tr} (h : tr_q (.op A B) = some X) : A = tr_quote ∧ B = .op X tr_nil := by
  cases B with
  | var c => cases h
  | op x m =>
    simp only [tr_q] at h
    split at h
    · rename_i hq
      injection h with h
      rw [tr_is_iff.mp hq.1, tr_is_iff.mp hq.2, h]
      exact ⟨rfl, rfl⟩
    · cases h
theorem tr_q_mk (X : Tr) : tr_q (.op tr_quote (.op X tr_nil)) = some X := by
  simp only [tr_q]
  rw [if_pos ⟨tr_is_iff.mpr rfl, tr_is_iff.mpr rfl⟩]
theorem am_ch1 : ∀ d, d < 10 → am_ch 1 d = 48 + d := by decide +kernel
/-- what is still to be told: objects, and rests of lists -/
def tl_ss : List (Bool × Tr) → List Nat
  | [] => []
  | x :: r => tlb x.2 x.1 ++ tl_ss r
def tw_R (n : Nat) (t : Nat → Tr) (tw : Nat → Int32) : List (Bool × Tr) → Prop
  | [] => True
  | x :: r => (∃ i, i < n ∧ tw r.length = nI (2 * i + x.1.toNat) ∧ t i = x.2) ∧ tw_R n t tw r
theorem tw_R.keep {n : Nat} {t : Nat → Tr} {tw : Nat → Int32} {k : Nat} {x : Int32} : ∀ (ss : List (Bool × Tr)), ss.length ≤ k → tw_R n t tw ss → tw_R n t (upd tw k x) ss := by
  intro ss
  induction ss with
  | nil => intro _ _; trivial
  | cons y r ih =>
    intro hl h
    rw [List.length_cons] at hl
    refine ⟨?_, ih (by omega) h.2⟩
    obtain ⟨i, h1, h2, h3⟩ := h.1
    exact ⟨i, h1, by rw [pk_un (by omega)]; exact h2, h3⟩
theorem tw_R.push {n : Nat} {t : Nat → Tr} {tw : Nat → Int32} {ss : List (Bool × Tr)} (h : tw_R n t tw ss) {i : Nat} (b : Bool) (hi : i < n) : tw_R n t (upd tw ss.length (nI (2 * i + b.toNat))) ((b, t i) :: ss) := ⟨⟨i, hi, pk_us, rfl⟩, tw_R.keep ss (Nat.le_refl _) h⟩
theorem take_s {w : List Nat} {k : Nat} (h : k < w.length) : w.take (k + 1) = w.take k ++ [w.getD k 0] := by
  rw [List.take_add_one, List.getElem?_eq_getElem h, List.getD_eq_getElem?_getD, List.getElem?_eq_getElem h]
  rfl
theorem div2 {i : Nat} (h : i < 100000) : nI (2 * i) / 2 = nI i ∧ nI (2 * i + 1) / 2 = nI i ∧ nI (2 * i) - nI (2 * i) / 2 * 2 = 0 ∧ nI (2 * i + 1) - nI (2 * i + 1) / 2 * 2 = 1 := by
  refine ⟨?_, ?_, ?_, ?_⟩
  · rw [show nI (2 * i) / 2 = nI (2 * i / 2) from pk_div (d := 2) (by omega) (by omega) (by omega), show 2 * i / 2 = i by omega]
  · rw [show nI (2 * i + 1) / 2 = nI ((2 * i + 1) / 2) from pk_div (d := 2) (by omega) (by omega) (by omega), show (2 * i + 1) / 2 = i by omega]
  · rw [show nI (2 * i) - nI (2 * i) / 2 * 2 = nI (2 * i % 2) from pk_rem (d := 2) (by omega) (by omega) (by omega), show 2 * i % 2 = 0 by omega]; rfl
  · rw [show nI (2 * i + 1) - nI (2 * i + 1) / 2 * 2 = nI ((2 * i + 1) % 2) from pk_rem (d := 2) (by omega) (by omega) (by omega), show (2 * i + 1) % 2 = 1 by omega]; rfl
theorem lc_lt {a b : Nat} (ha : a < 2 ^ 63) (hb : b < 2 ^ 63) : lg_cmp (lN a) (lN b) < 0 ↔ a < b := by
  unfold lg_cmp
  by_cases q : b < a
  · rw [if_pos ((pk_lLT hb ha).mpr q)]
    exact ⟨fun z => absurd z (by decide), fun z => by omega⟩
  · rw [if_neg (fun z => q ((pk_lLT hb ha).mp z))]
    by_cases e : a = b
    · rw [if_pos (by rw [e])]
      exact ⟨fun z => absurd z (by decide), fun z => by omega⟩
    · rw [if_neg (fun z => e ((pk_lEQ ha hb).mp z))]
      exact ⟨fun _ => by omega, fun _ => by decide⟩
theorem tq_none {T : Tr} (h : ∀ X, tr_q T ≠ some X) : tr_q T = none := by
  cases hq : tr_q T with
  | none => rfl
  | some X => exact absurd hq (h X)
set_option maxHeartbeats 2000000 in
set_option maxRecDepth 100000 in
theorem c_Mo_isPair0 (l : Launch) (lf rt nx sz hg : Nat → Int32) (nu : Nat → Int64) (hd nm le pl wa tx : Nat → Int32) (ts : Int32) (ou : Nat → Int32) (os : Int32) (wd : Nat → Int32) (ws : Int32) (tw : Nat → Int32) (tg : Int32) (o1 : Nat → Int32) (s1 atp rf rp : Int32) (pS pF pT pL : Nat → Int32) (op : Int32) (it : Nat → Int32) (isz wh dn : Int32) (wk me : Nat → Int32) (sh : Int32) (ot : Nat → Int32) (n ns : Nat) (t : Nat → Tr) (hm : mo_tb n ns lf rt nx hg nu hd nm le t) (k : Nat) (hk : k < n) (c : Nat) (hT : t k = .var c) : Con l y_Mo_isPair M_Mo_isPair 0 0 [.ref 0, .int (nI k)] (moH lf rt nx sz hg nu hd (nI n) nm le (nI ns) pl wa tx ts ou os wd ws tw tg o1 s1 atp rf rp pS pF pT pL op it isz wh dn wk me sh ot) 25 0 0 0 (fun r h' => r = some (.int 0) ∧ h' = moH lf rt nx sz hg nu hd (nI n) nm le (nI ns) pl wa tx ts ou os wd ws tw tg o1 s1 atp rf rp pS pF pT pL op it isz wh dn wk me sh ot) := by
  have h16 := hm.n16
  have hlt := mo_lt ((hm.at hk hT).imp And.left And.left)
  refine Con.ent ok_Mo_isPair (by decide +kernel) rfl ?_
  intro pA eA sA mA argsA belowA methA cA GA μA
  refine aw_go 3 5 [some (.ref 0), some (.int (nI k))] [.int (nI k), .ref 1] (moH lf rt nx sz hg nu hd (nI n) nm le (nI ns) pl wa tx ts ou os wd ws tw tg o1 s1 atp rf rp pS pF pT pL op it isz wh dn wk me sh ot) rfl ?_
  refine aw_ialdN rfl rfl ⟨by omega, by omega⟩ ?_
  refine aw_if_lt rfl (fun h6 => ?_) (fun h6 => absurd hlt h6)
  refine aw_go 1 14 [some (.ref 0), some (.int (nI k))] [.int 0] (moH lf rt nx sz hg nu hd (nI n) nm le (nI ns) pl wa tx ts ou os wd ws tw tg o1 s1 atp rf rp pS pF pT pL op it isz wh dn wk me sh ot) rfl ?_
  exact aw_iret rfl (by decide) rfl ⟨rfl, rfl⟩ rfl (Nat.le_refl _) (Nat.le_refl _) -- [.int 0] (moH lf rt nx sz hg nu hd (nI n) nm le (nI ns) pl wa tx ts ou os wd ws tw tg o1 s1 atp rf rp pS pF pT pL op it isz wh dn wk me sh ot)
set_option maxHeartbeats 2000000 in
set_option maxRecDepth 100000 in
theorem c_Mo_isPair1 (l : Launch) (lf rt nx sz hg : Nat → Int32) (nu : Nat → Int64) (hd nm le pl wa tx : Nat → Int32) (ts : Int32) (ou : Nat → Int32) (os : Int32) (wd : Nat → Int32) (ws : Int32) (tw : Nat → Int32) (tg : Int32) (o1 : Nat → Int32) (s1 atp rf rp : Int32) (pS pF pT pL : Nat → Int32) (op : Int32) (it : Nat → Int32) (isz wh dn : Int32) (wk me : Nat → Int32) (sh : Int32) (ot : Nat → Int32) (n ns : Nat) (t : Nat → Tr) (hm : mo_tb n ns lf rt nx hg nu hd nm le t) (k : Nat) (hk : k < n) (A B : Tr) (hT : t k = .op A B) : Con l y_Mo_isPair M_Mo_isPair 0 0 [.ref 0, .int (nI k)] (moH lf rt nx sz hg nu hd (nI n) nm le (nI ns) pl wa tx ts ou os wd ws tw tg o1 s1 atp rf rp pS pF pT pL op it isz wh dn wk me sh ot) 25 0 0 0 (fun r h' => r = some (.int 1) ∧ h' = moH lf rt nx sz hg nu hd (nI n) nm le (nI ns) pl wa tx ts ou os wd ws tw tg o1 s1 atp rf rp pS pF pT pL op it isz wh dn wk me sh ot) := by
  have h16 := hm.n16
  obtain ⟨a, b, ha, hb, hlf, hrt, hta, htb⟩ := hm.pr hk hT
  refine Con.ent ok_Mo_isPair (by decide +kernel) rfl ?_
  intro pA eA sA mA argsA belowA methA cA GA μA
  refine aw_go 3 5 [some (.ref 0), some (.int (nI k))] [.int (nI k), .ref 1] (moH lf rt nx sz hg nu hd (nI n) nm le (nI ns) pl wa tx ts ou os wd ws tw tg o1 s1 atp rf rp pS pF pT pL op it isz wh dn wk me sh ot) rfl ?_
  refine aw_ialdN rfl rfl ⟨by omega, by omega⟩ ?_
  rw [hlf]
  refine aw_if_lt rfl (fun h6 => absurd h6 (nI_pos (by omega))) (fun h6 => ?_)
  refine aw_go 2 14 [some (.ref 0), some (.int (nI k))] [.int 1] (moH lf rt nx sz hg nu hd (nI n) nm le (nI ns) pl wa tx ts ou os wd ws tw tg o1 s1 atp rf rp pS pF pT pL op it isz wh dn wk me sh ot) rfl ?_
  exact aw_iret rfl (by decide) rfl ⟨rfl, rfl⟩ rfl (Nat.le_refl _) (Nat.le_refl _) -- [.int 1] (moH lf rt nx sz hg nu hd (nI n) nm le (nI ns) pl wa tx ts ou os wd ws tw tg o1 s1 atp rf rp pS pF pT pL op it isz wh dn wk me sh ot)
theorem c_Mo_isPairD (l : Launch) (lf rt nx sz hg : Nat → Int32) (nu : Nat → Int64) (hd nm le pl wa tx : Nat → Int32) (ts : Int32) (ou : Nat → Int32) (os : Int32) (wd : Nat → Int32) (ws : Int32) (tw : Nat → Int32) (tg : Int32) (o1 : Nat → Int32) (s1 atp rf rp : Int32) (pS pF pT pL : Nat → Int32) (op : Int32) (it : Nat → Int32) (isz wh dn : Int32) (wk me : Nat → Int32) (sh : Int32) (ot : Nat → Int32) (n ns : Nat) (t : Nat → Tr) (hm : mo_tb n ns lf rt nx hg nu hd nm le t) (k : Nat) (hk : k < n) : Con l y_Mo_isPair M_Mo_isPair 0 0 [.ref 0, .int (nI k)] (moH lf rt nx sz hg nu hd (nI n) nm le (nI ns) pl wa tx ts ou os wd ws tw tg o1 s1 atp rf rp pS pF pT pL op it isz wh dn wk me sh ot) 25 0 0 0 (fun r h' => ((∃ c, t k = .var c) ∧ r = some (.int 0) ∧ h' = moH lf rt nx sz hg nu hd (nI n) nm le (nI ns) pl wa tx ts ou os wd ws tw tg o1 s1 atp rf rp pS pF pT pL op it isz wh dn wk me sh ot) ∨ ((∃ A B, t k = .op A B) ∧ r = some (.int 1) ∧ h' = moH lf rt nx sz hg nu hd (nI n) nm le (nI ns) pl wa tx ts ou os wd ws tw tg o1 s1 atp rf rp pS pF pT pL op it isz wh dn wk me sh ot)) := by
  cases hT : t k with
  | var c => exact (c_Mo_isPair0 l lf rt nx sz hg nu hd nm le pl wa tx ts ou os wd ws tw tg o1 s1 atp rf rp pS pF pT pL op it isz wh dn wk me sh ot n ns t hm k hk c hT).mono (fun r h' q => Or.inl ⟨⟨c, rfl⟩, q⟩)
  | op A B => exact (c_Mo_isPair1 l lf rt nx sz hg nu hd nm le pl wa tx ts ou os wd ws tw tg o1 s1 atp rf rp pS pF pT pL op it isz wh dn wk me sh ot n ns t hm k hk A B hT).mono (fun r h' q => Or.inr ⟨⟨A, B, rfl⟩, q⟩)
set_option maxHeartbeats 2000000 in
set_option maxRecDepth 100000 in
theorem c_Mo_isSymbol_1 (l : Launch) (lf rt nx sz hg : Nat → Int32) (nu : Nat → Int64) (hd : Nat → Int32) (cn : Int32) (nm le : Nat → Int32) (sy : Int32) (pl wa tx : Nat → Int32) (ts : Int32) (ou : Nat → Int32) (os : Int32) (wd : Nat → Int32) (ws : Int32) (tw : Nat → Int32) (tg : Int32) (o1 : Nat → Int32) (s1 atp rf rp : Int32) (pS pF pT pL : Nat → Int32) (op : Int32) (it : Nat → Int32) (isz wh dn : Int32) (wk me : Nat → Int32) (sh : Int32) (ot : Nat → Int32) (k : Nat) (hk : k < 16000) (hl : lf k = -1) : Con l y_Mo_isSymbol M_Mo_isSymbol 0 0 [.ref 0, .int (nI k)] (moH lf rt nx sz hg nu hd cn nm le sy pl wa tx ts ou os wd ws tw tg o1 s1 atp rf rp pS pF pT pL op it isz wh dn wk me sh ot) 25 0 0 0 (fun r h' => r = some (.int 0) ∧ h' = moH lf rt nx sz hg nu hd cn nm le sy pl wa tx ts ou os wd ws tw tg o1 s1 atp rf rp pS pF pT pL op it isz wh dn wk me sh ot) := by
  refine Con.ent ok_Mo_isSymbol (by decide +kernel) rfl ?_
  intro pA eA sA mA argsA belowA methA cA GA μA
  refine aw_go 3 5 [some (.ref 0), some (.int (nI k))] [.int (nI k), .ref 1] (moH lf rt nx sz hg nu hd cn nm le sy pl wa tx ts ou os wd ws tw tg o1 s1 atp rf rp pS pF pT pL op it isz wh dn wk me sh ot) rfl ?_
  refine aw_ialdN rfl rfl ⟨by omega, by omega⟩ ?_
  rw [hl]
  refine aw_go 1 8 [some (.ref 0), some (.int (nI k))] [.int (-2), .int (-1)] (moH lf rt nx sz hg nu hd cn nm le sy pl wa tx ts ou os wd ws tw tg o1 s1 atp rf rp pS pF pT pL op it isz wh dn wk me sh ot) rfl ?_
  refine aw_cmp_ne rfl (fun h8 => ?_) (fun h8 => absurd h8 (by decide))
  refine aw_go 1 16 [some (.ref 0), some (.int (nI k))] [.int 0] (moH lf rt nx sz hg nu hd cn nm le sy pl wa tx ts ou os wd ws tw tg o1 s1 atp rf rp pS pF pT pL op it isz wh dn wk me sh ot) rfl ?_
  exact aw_iret rfl (by decide) rfl ⟨rfl, rfl⟩ rfl (Nat.le_refl _) (Nat.le_refl _) -- [.int 0] (moH lf rt nx sz hg nu hd cn nm le sy pl wa tx ts ou os wd ws tw tg o1 s1 atp rf rp pS pF pT pL op it isz wh dn wk me sh ot)
set_option maxHeartbeats 2000000 in
set_option maxRecDepth 100000 in
theorem c_Mo_isSymbol_2 (l : Launch) (lf rt nx sz hg : Nat → Int32) (nu : Nat → Int64) (hd : Nat → Int32) (cn : Int32) (nm le : Nat → Int32) (sy : Int32) (pl wa tx : Nat → Int32) (ts : Int32) (ou : Nat → Int32) (os : Int32) (wd : Nat → Int32) (ws : Int32) (tw : Nat → Int32) (tg : Int32) (o1 : Nat → Int32) (s1 atp rf rp : Int32) (pS pF pT pL : Nat → Int32) (op : Int32) (it : Nat → Int32) (isz wh dn : Int32) (wk me : Nat → Int32) (sh : Int32) (ot : Nat → Int32) (k : Nat) (hk : k < 16000) (hl : lf k = -2) : Con l y_Mo_isSymbol M_Mo_isSymbol 0 0 [.ref 0, .int (nI k)] (moH lf rt nx sz hg nu hd cn nm le sy pl wa tx ts ou os wd ws tw tg o1 s1 atp rf rp pS pF pT pL op it isz wh dn wk me sh ot) 25 0 0 0 (fun r h' => r = some (.int 1) ∧ h' = moH lf rt nx sz hg nu hd cn nm le sy pl wa tx ts ou os wd ws tw tg o1 s1 atp rf rp pS pF pT pL op it isz wh dn wk me sh ot) := by
  refine Con.ent ok_Mo_isSymbol (by decide +kernel) rfl ?_
  intro pA eA sA mA argsA belowA methA cA GA μA
  refine aw_go 3 5 [some (.ref 0), some (.int (nI k))] [.int (nI k), .ref 1] (moH lf rt nx sz hg nu hd cn nm le sy pl wa tx ts ou os wd ws tw tg o1 s1 atp rf rp pS pF pT pL op it isz wh dn wk me sh ot) rfl ?_
  refine aw_ialdN rfl rfl ⟨by omega, by omega⟩ ?_
  rw [hl]
  refine aw_go 1 8 [some (.ref 0), some (.int (nI k))] [.int (-2), .int (-2)] (moH lf rt nx sz hg nu hd cn nm le sy pl wa tx ts ou os wd ws tw tg o1 s1 atp rf rp pS pF pT pL op it isz wh dn wk me sh ot) rfl ?_
  refine aw_cmp_ne rfl (fun h8 => absurd h8 (by decide)) (fun h8 => ?_)
  refine aw_go 2 16 [some (.ref 0), some (.int (nI k))] [.int 1] (moH lf rt nx sz hg nu hd cn nm le sy pl wa tx ts ou os wd ws tw tg o1 s1 atp rf rp pS pF pT pL op it isz wh dn wk me sh ot) rfl ?_
  exact aw_iret rfl (by decide) rfl ⟨rfl, rfl⟩ rfl (Nat.le_refl _) (Nat.le_refl _) -- [.int 1] (moH lf rt nx sz hg nu hd cn nm le sy pl wa tx ts ou os wd ws tw tg o1 s1 atp rf rp pS pF pT pL op it isz wh dn wk me sh ot)
set_option maxHeartbeats 2000000 in
set_option maxRecDepth 100000 in
theorem c_Mo_isNatural_1 (l : Launch) (lf rt nx sz hg : Nat → Int32) (nu : Nat → Int64) (hd : Nat → Int32) (cn : Int32) (nm le : Nat → Int32) (sy : Int32) (pl wa tx : Nat → Int32) (ts : Int32) (ou : Nat → Int32) (os : Int32) (wd : Nat → Int32) (ws : Int32) (tw : Nat → Int32) (tg : Int32) (o1 : Nat → Int32) (s1 atp rf rp : Int32) (pS pF pT pL : Nat → Int32) (op : Int32) (it : Nat → Int32) (isz wh dn : Int32) (wk me : Nat → Int32) (sh : Int32) (ot : Nat → Int32) (k : Nat) (hk : k < 16000) (hl : lf k = -1) : Con l y_Mo_isNatural M_Mo_isNatural 0 0 [.ref 0, .int (nI k)] (moH lf rt nx sz hg nu hd cn nm le sy pl wa tx ts ou os wd ws tw tg o1 s1 atp rf rp pS pF pT pL op it isz wh dn wk me sh ot) 25 0 0 0 (fun r h' => r = some (.int 1) ∧ h' = moH lf rt nx sz hg nu hd cn nm le sy pl wa tx ts ou os wd ws tw tg o1 s1 atp rf rp pS pF pT pL op it isz wh dn wk me sh ot) := by
  refine Con.ent ok_Mo_isNatural (by decide +kernel) rfl ?_
  intro pA eA sA mA argsA belowA methA cA GA μA
  refine aw_go 3 5 [some (.ref 0), some (.int (nI k))] [.int (nI k), .ref 1] (moH lf rt nx sz hg nu hd cn nm le sy pl wa tx ts ou os wd ws tw tg o1 s1 atp rf rp pS pF pT pL op it isz wh dn wk me sh ot) rfl ?_
  refine aw_ialdN rfl rfl ⟨by omega, by omega⟩ ?_
  rw [hl]
  refine aw_go 1 7 [some (.ref 0), some (.int (nI k))] [.int (-1), .int (-1)] (moH lf rt nx sz hg nu hd cn nm le sy pl wa tx ts ou os wd ws tw tg o1 s1 atp rf rp pS pF pT pL op it isz wh dn wk me sh ot) rfl ?_
  refine aw_cmp_ne rfl (fun h7 => absurd h7 (by decide)) (fun h7 => ?_)
  refine aw_go 2 15 [some (.ref 0), some (.int (nI k))] [.int 1] (moH lf rt nx sz hg nu hd cn nm le sy pl wa tx ts ou os wd ws tw tg o1 s1 atp rf rp pS pF pT pL op it isz wh dn wk me sh ot) rfl ?_
  exact aw_iret rfl (by decide) rfl ⟨rfl, rfl⟩ rfl (Nat.le_refl _) (Nat.le_refl _) -- [.int 1] (moH lf rt nx sz hg nu hd cn nm le sy pl wa tx ts ou os wd ws tw tg o1 s1 atp rf rp pS pF pT pL op it isz wh dn wk me sh ot)
set_option maxHeartbeats 2000000 in
set_option maxRecDepth 100000 in
theorem c_Mo_isNatural_2 (l : Launch) (lf rt nx sz hg : Nat → Int32) (nu : Nat → Int64) (hd : Nat → Int32) (cn : Int32) (nm le : Nat → Int32) (sy : Int32) (pl wa tx : Nat → Int32) (ts : Int32) (ou : Nat → Int32) (os : Int32) (wd : Nat → Int32) (ws : Int32) (tw : Nat → Int32) (tg : Int32) (o1 : Nat → Int32) (s1 atp rf rp : Int32) (pS pF pT pL : Nat → Int32) (op : Int32) (it : Nat → Int32) (isz wh dn : Int32) (wk me : Nat → Int32) (sh : Int32) (ot : Nat → Int32) (k : Nat) (hk : k < 16000) (hl : lf k = -2) : Con l y_Mo_isNatural M_Mo_isNatural 0 0 [.ref 0, .int (nI k)] (moH lf rt nx sz hg nu hd cn nm le sy pl wa tx ts ou os wd ws tw tg o1 s1 atp rf rp pS pF pT pL op it isz wh dn wk me sh ot) 25 0 0 0 (fun r h' => r = some (.int 0) ∧ h' = moH lf rt nx sz hg nu hd cn nm le sy pl wa tx ts ou os wd ws tw tg o1 s1 atp rf rp pS pF pT pL op it isz wh dn wk me sh ot) := by
  refine Con.ent ok_Mo_isNatural (by decide +kernel) rfl ?_
  intro pA eA sA mA argsA belowA methA cA GA μA
  refine aw_go 3 5 [some (.ref 0), some (.int (nI k))] [.int (nI k), .ref 1] (moH lf rt nx sz hg nu hd cn nm le sy pl wa tx ts ou os wd ws tw tg o1 s1 atp rf rp pS pF pT pL op it isz wh dn wk me sh ot) rfl ?_
  refine aw_ialdN rfl rfl ⟨by omega, by omega⟩ ?_
  rw [hl]
  refine aw_go 1 7 [some (.ref 0), some (.int (nI k))] [.int (-1), .int (-2)] (moH lf rt nx sz hg nu hd cn nm le sy pl wa tx ts ou os wd ws tw tg o1 s1 atp rf rp pS pF pT pL op it isz wh dn wk me sh ot) rfl ?_
  refine aw_cmp_ne rfl (fun h7 => ?_) (fun h7 => absurd h7 (by decide))
  refine aw_go 1 15 [some (.ref 0), some (.int (nI k))] [.int 0] (moH lf rt nx sz hg nu hd cn nm le sy pl wa tx ts ou os wd ws tw tg o1 s1 atp rf rp pS pF pT pL op it isz wh dn wk me sh ot) rfl ?_
  exact aw_iret rfl (by decide) rfl ⟨rfl, rfl⟩ rfl (Nat.le_refl _) (Nat.le_refl _) -- [.int 0] (moH lf rt nx sz hg nu hd cn nm le sy pl wa tx ts ou os wd ws tw tg o1 s1 atp rf rp pS pF pT pL op it isz wh dn wk me sh ot)
set_option maxHeartbeats 2000000 in
set_option maxRecDepth 100000 in
theorem c_Mo_isQuoted (l : Launch) (lf rt nx sz hg : Nat → Int32) (nu : Nat → Int64) (hd nm le pl wa tx : Nat → Int32) (ts : Int32) (ou : Nat → Int32) (os : Int32) (wd : Nat → Int32) (ws : Int32) (tw : Nat → Int32) (tg : Int32) (o1 : Nat → Int32) (s1 atp rf rp : Int32) (pS pF pT pL : Nat → Int32) (op : Int32) (it : Nat → Int32) (isz wh dn : Int32) (wk me : Nat → Int32) (sh : Int32) (ot : Nat → Int32) (n ns : Nat) (t : Nat → Tr) (hm : mo_tb n ns lf rt nx hg nu hd nm le t) (k : Nat) (hk : k < n) (A B : Tr) (hT : t k = .op A B) (h01 : 2 ≤ n ∧ t 0 = tr_nil ∧ t 1 = tr_quote) : Con l y_Mo_isQuoted M_Mo_isQuoted 1 21 [.ref 0, .int (nI k)] (moH lf rt nx sz hg nu hd (nI n) nm le (nI ns) pl wa tx ts ou os wd ws tw tg o1 s1 atp rf rp pS pF pT pL op it isz wh dn wk me sh ot) 25 0 0 0 (fun r h' => ((∃ b x, b < n ∧ x < n ∧ rt k = nI b ∧ lf b = nI x ∧ tr_q (.op A B) = some (t x)) ∧ r = some (.int 1) ∧ h' = moH lf rt nx sz hg nu hd (nI n) nm le (nI ns) pl wa tx ts ou os wd ws tw tg o1 s1 atp rf rp pS pF pT pL op it isz wh dn wk me sh ot) ∨ (tr_q (.op A B) = none ∧ r = some (.int 0) ∧ h' = moH lf rt nx sz hg nu hd (nI n) nm le (nI ns) pl wa tx ts ou os wd ws tw tg o1 s1 atp rf rp pS pF pT pL op it isz wh dn wk me sh ot)) := by
  have h16 := hm.n16
  obtain ⟨a, b, ha, hb, hlf, hrt, hta, htb⟩ := hm.pr hk hT
  refine Con.ent ok_Mo_isQuoted (by decide +kernel) rfl ?_
  intro pA eA sA mA argsA belowA methA cA GA μA
  refine aw_go 2 2 [some (.ref 0), some (.int (nI k))] [.int (nI k), .ref 0] (moH lf rt nx sz hg nu hd (nI n) nm le (nI ns) pl wa tx ts ou os wd ws tw tg o1 s1 atp rf rp pS pF pT pL op it isz wh dn wk me sh ot) rfl ?_
  refine aw_cV [0, 1, 2, 3, 4, 5, 6, 7, 8, 9, 10, 11, 12, 13, 14, 15, 16, 17, 18, 19, 20, 21, 22, 23, 24] (c_Mo_isPair1 l lf rt nx sz hg nu hd nm le pl wa tx ts ou os wd ws tw tg o1 s1 atp rf rp pS pF pT pL op it isz wh dn wk me sh ot n ns t hm k hk A B hT) rfl cw_Mo_215 rfl rfl rfl rfl rfl rfl (Nat.le_refl _) (Nat.le_refl _) (fun r h' hp => ?_)
  obtain ⟨rfl, rfl⟩ := hp
  refine aw_go 0 5 [some (.ref 0), some (.int (nI k))] [.int 1] (moH lf rt nx sz hg nu hd (nI n) nm le (nI ns) pl wa tx ts ou os wd ws tw tg o1 s1 atp rf rp pS pF pT pL op it isz wh dn wk me sh ot) rfl ?_
  refine aw_if_eq rfl (fun h5 => absurd h5 (by decide)) (fun h5 => ?_)
  refine aw_go 3 13 [some (.ref 0), some (.int (nI k))] [.int (nI k), .ref 1] (moH lf rt nx sz hg nu hd (nI n) nm le (nI ns) pl wa tx ts ou os wd ws tw tg o1 s1 atp rf rp pS pF pT pL op it isz wh dn wk me sh ot) rfl ?_
  refine aw_ialdN rfl rfl ⟨by omega, by omega⟩ ?_
  rw [hlf]
  refine aw_go 1 15 [some (.ref 0), some (.int (nI k))] [.int 1, .int (nI a)] (moH lf rt nx sz hg nu hd (nI n) nm le (nI ns) pl wa tx ts ou os wd ws tw tg o1 s1 atp rf rp pS pF pT pL op it isz wh dn wk me sh ot) rfl ?_
  refine aw_cmp_ne rfl (fun h15 => ?_) (fun h15 => ?_)
  · refine aw_go 1 50 [some (.ref 0), some (.int (nI k))] [.int 0] (moH lf rt nx sz hg nu hd (nI n) nm le (nI ns) pl wa tx ts ou os wd ws tw tg o1 s1 atp rf rp pS pF pT pL op it isz wh dn wk me sh ot) rfl ?_
    exact aw_iret rfl (by decide) rfl (Or.inr ⟨tq_none (fun X z => h15 (by rw [show a = 1 from hm.inj (by omega) (by omega) (by rw [hta, (tr_q_op z).1, h01.2.2])]; rfl)), rfl, rfl⟩) rfl (Nat.le_refl _) (Nat.le_refl _) -- [.int 0] (moH lf rt nx sz hg nu hd (nI n) nm le (nI ns) pl wa tx ts ou os wd ws tw tg o1 s1 atp rf rp pS pF pT pL op it isz wh dn wk me sh ot)
  · refine aw_go 4 24 [some (.ref 0), some (.int (nI k))] [.int (nI k), .ref 2, .ref 0] (moH lf rt nx sz hg nu hd (nI n) nm le (nI ns) pl wa tx ts ou os wd ws tw tg o1 s1 atp rf rp pS pF pT pL op it isz wh dn wk me sh ot) rfl ?_
    refine aw_ialdN rfl rfl ⟨by omega, by omega⟩ ?_
    rw [hrt]
    refine aw_cV [0, 1, 2, 3, 4, 5, 6, 7, 8, 9, 10, 11, 12, 13, 14, 15, 16, 17, 18, 19, 20, 21, 22, 23, 24] (c_Mo_isPairD l lf rt nx sz hg nu hd nm le pl wa tx ts ou os wd ws tw tg o1 s1 atp rf rp pS pF pT pL op it isz wh dn wk me sh ot n ns t hm b (by omega)) rfl cw_Mo_215 rfl rfl rfl rfl rfl rfl (Nat.le_refl _) (Nat.le_refl _) (fun r h' hp => ?_)
    rcases hp with ⟨⟨c, hc⟩, rfl, rfl⟩ | ⟨⟨C, D, hc⟩, rfl, rfl⟩
    · refine aw_go 0 28 [some (.ref 0), some (.int (nI k))] [.int 0] (moH lf rt nx sz hg nu hd (nI n) nm le (nI ns) pl wa tx ts ou os wd ws tw tg o1 s1 atp rf rp pS pF pT pL op it isz wh dn wk me sh ot) rfl ?_
      refine aw_if_eq rfl (fun h28 => ?_) (fun h28 => absurd h28 (by decide))
      refine aw_go 1 50 [some (.ref 0), some (.int (nI k))] [.int 0] (moH lf rt nx sz hg nu hd (nI n) nm le (nI ns) pl wa tx ts ou os wd ws tw tg o1 s1 atp rf rp pS pF pT pL op it isz wh dn wk me sh ot) rfl ?_
      exact aw_iret rfl (by decide) rfl (Or.inr ⟨tq_none (fun X z => by rw [(tr_q_op z).2] at htb; rw [htb] at hc; cases hc), rfl, rfl⟩) rfl (Nat.le_refl _) (Nat.le_refl _) -- [.int 0] (moH lf rt nx sz hg nu hd (nI n) nm le (nI ns) pl wa tx ts ou os wd ws tw tg o1 s1 atp rf rp pS pF pT pL op it isz wh dn wk me sh ot)
    · refine aw_go 0 28 [some (.ref 0), some (.int (nI k))] [.int 1] (moH lf rt nx sz hg nu hd (nI n) nm le (nI ns) pl wa tx ts ou os wd ws tw tg o1 s1 atp rf rp pS pF pT pL op it isz wh dn wk me sh ot) rfl ?_
      refine aw_if_eq rfl (fun h28 => absurd h28 (by decide)) (fun h28 => ?_)
      refine aw_go 5 40 [some (.ref 0), some (.int (nI k))] [.int (nI k), .ref 2, .ref 2] (moH lf rt nx sz hg nu hd (nI n) nm le (nI ns) pl wa tx ts ou os wd ws tw tg o1 s1 atp rf rp pS pF pT pL op it isz wh dn wk me sh ot) rfl ?_
      refine aw_ialdN rfl rfl ⟨by omega, by omega⟩ ?_
      rw [hrt]
      obtain ⟨x, y, hx, hy, hlx, hry, htx, hty⟩ := hm.pr (show b < n by omega) hc
      refine aw_ialdN rfl rfl ⟨by omega, by omega⟩ ?_
      rw [hry]
      refine aw_if_ne rfl (fun h42 => ?_) (fun h42 => ?_)
      · refine aw_go 1 50 [some (.ref 0), some (.int (nI k))] [.int 0] (moH lf rt nx sz hg nu hd (nI n) nm le (nI ns) pl wa tx ts ou os wd ws tw tg o1 s1 atp rf rp pS pF pT pL op it isz wh dn wk me sh ot) rfl ?_
        exact aw_iret rfl (by decide) rfl (Or.inr ⟨tq_none (fun X z => by rw [← htb, hc] at z; have z2 := (tr_q_op z).2; injection z2 with z3 z4; exact h42 (by rw [show y = 0 from hm.inj (by omega) (by omega) (by rw [hty, z4, h01.2.1])]; rfl)), rfl, rfl⟩) rfl (Nat.le_refl _) (Nat.le_refl _) -- [.int 0] (moH lf rt nx sz hg nu hd (nI n) nm le (nI ns) pl wa tx ts ou os wd ws tw tg o1 s1 atp rf rp pS pF pT pL op it isz wh dn wk me sh ot)
      · refine aw_go 2 50 [some (.ref 0), some (.int (nI k))] [.int 1] (moH lf rt nx sz hg nu hd (nI n) nm le (nI ns) pl wa tx ts ou os wd ws tw tg o1 s1 atp rf rp pS pF pT pL op it isz wh dn wk me sh ot) rfl ?_
        exact aw_iret rfl (by decide) rfl (Or.inl ⟨⟨b, x, by omega, by omega, (by first | exact hrt | rfl), hlx, by rw [← hta, ← htb, hc, ← hty, nI_inj (b := 1) (by omega) (by omega) h15, h01.2.2, nI_inj (b := 0) (by omega) (by omega) h42, h01.2.1, ← htx]; exact tr_q_mk _⟩, rfl, rfl⟩) rfl (Nat.le_refl _) (Nat.le_refl _) -- [.int 1] (moH lf rt nx sz hg nu hd (nI n) nm le (nI ns) pl wa tx ts ou os wd ws tw tg o1 s1 atp rf rp pS pF pT pL op it isz wh dn wk me sh ot)
set_option maxHeartbeats 2000000 in
set_option maxRecDepth 100000 in
theorem c_Mo_later (l : Launch) (lf rt nx sz hg : Nat → Int32) (nu : Nat → Int64) (hd : Nat → Int32) (cn : Int32) (nm le : Nat → Int32) (sy : Int32) (pl wa tx : Nat → Int32) (ts : Int32) (ou : Nat → Int32) (os : Int32) (wd : Nat → Int32) (ws : Int32) (tw o1 : Nat → Int32) (s1 atp rf rp : Int32) (pS pF pT pL : Nat → Int32) (op : Int32) (it : Nat → Int32) (isz wh dn : Int32) (wk me : Nat → Int32) (sh : Int32) (ot : Nat → Int32) (k : Nat) (hk : k < 4000) (x : Int32) : Con l y_Mo_later M_Mo_later 0 0 [.ref 0, .int x] (moH lf rt nx sz hg nu hd cn nm le sy pl wa tx ts ou os wd ws tw (nI k) o1 s1 atp rf rp pS pF pT pL op it isz wh dn wk me sh ot) 25 0 0 0 (fun r h' => r = none ∧ h' = moH lf rt nx sz hg nu hd cn nm le sy pl wa tx ts ou os wd ws (upd tw k x) (nI (k + 1)) o1 s1 atp rf rp pS pF pT pL op it isz wh dn wk me sh ot) := by
  refine Con.ent ok_Mo_later (by decide +kernel) rfl ?_
  intro pA eA sA mA argsA belowA methA cA GA μA
  refine aw_go 5 9 [some (.ref 0), some (.int x)] [.int x, .int (nI k), .ref 15] (moH lf rt nx sz hg nu hd cn nm le sy pl wa tx ts ou os wd ws tw (nI k) o1 s1 atp rf rp pS pF pT pL op it isz wh dn wk me sh ot) rfl ?_
  refine aw_iastN rfl rfl ⟨by omega, by omega⟩ ?_
  refine aw_go 6 20 [some (.ref 0), some (.int x)] [] (moH lf rt nx sz hg nu hd cn nm le sy pl wa tx ts ou os wd ws (upd tw k x) ((nI k) + 1) o1 s1 atp rf rp pS pF pT pL op it isz wh dn wk me sh ot) rfl ?_
  exact aw_vret rfl rfl ⟨rfl, by rw [nI_succ]⟩ rfl (Nat.le_refl _) (Nat.le_refl _) -- [] (moH lf rt nx sz hg nu hd cn nm le sy pl wa tx ts ou os wd ws (upd tw k x) ((nI k) + 1) o1 s1 atp rf rp pS pF pT pL op it isz wh dn wk me sh ot)
set_option maxHeartbeats 2000000 in
set_option maxRecDepth 100000 in
theorem c_Mo_tellLetter_o (l : Launch) (lf rt nx sz hg : Nat → Int32) (nu : Nat → Int64) (hd : Nat → Int32) (cn : Int32) (nm le : Nat → Int32) (sy : Int32) (pl wa tx : Nat → Int32) (ts : Int32) (ou wd : Nat → Int32) (ws : Int32) (tw : Nat → Int32) (tg : Int32) (o1 : Nat → Int32) (s1 atp rf rp : Int32) (pS pF pT pL : Nat → Int32) (op : Int32) (it : Nat → Int32) (isz wh dn : Int32) (wk me ot : Nat → Int32) (k : Nat) (acc : List Nat) (hR : sh_R 2000 k ou acc) (c : Nat) : Con l y_Mo_tellLetter M_Mo_tellLetter 0 0 [.ref 0, .int (nI c)] (moH lf rt nx sz hg nu hd cn nm le sy pl wa tx ts ou (nI k) wd ws tw tg o1 s1 atp rf rp pS pF pT pL op it isz wh dn wk me 0 ot) 25 0 0 0 (fun r h' => r = none ∧ ∃ k2 f2, sh_R 2000 k2 f2 (acc ++ [c]) ∧ h' = moH lf rt nx sz hg nu hd cn nm le sy pl wa tx ts f2 (nI k2) wd ws tw tg o1 s1 atp rf rp pS pF pT pL op it isz wh dn wk me 0 ot) := by
  have hk := hR.1
  refine Con.ent ok_Mo_tellLetter (by decide +kernel) rfl ?_
  intro pA eA sA mA argsA belowA methA cA GA μA
  refine aw_go 2 4 [some (.ref 0), some (.int (nI c))] [.int 0] (moH lf rt nx sz hg nu hd cn nm le sy pl wa tx ts ou (nI k) wd ws tw tg o1 s1 atp rf rp pS pF pT pL op it isz wh dn wk me 0 ot) rfl ?_
  refine aw_if_eq rfl (fun h4 => ?_) (fun h4 => absurd h4 (by decide))
  refine aw_go 3 47 [some (.ref 0), some (.int (nI c))] [.int 2000, .int (nI k)] (moH lf rt nx sz hg nu hd cn nm le sy pl wa tx ts ou (nI k) wd ws tw tg o1 s1 atp rf rp pS pF pT pL op it isz wh dn wk me 0 ot) rfl ?_
  refine aw_cmp_ge rfl (fun h47 => ?_) (fun h47 => ?_)
  · exact aw_vret rfl rfl ⟨rfl, k, ou, hR.add.2 (by have := le_n (c := 2000) (k := k) (by omega) (by omega) h47; omega), rfl⟩ rfl (Nat.le_refl _) (Nat.le_refl _) -- [] (moH lf rt nx sz hg nu hd cn nm le sy pl wa tx ts ou (nI k) wd ws tw tg o1 s1 atp rf rp pS pF pT pL op it isz wh dn wk me 0 ot)
  · have hlt : k < 2000 := Nat.not_le.mp fun z => h47 (nI_le (a := 2000) z (by omega))
    refine aw_go 5 59 [some (.ref 0), some (.int (nI c))] [.int (nI c), .int (nI k), .ref 13] (moH lf rt nx sz hg nu hd cn nm le sy pl wa tx ts ou (nI k) wd ws tw tg o1 s1 atp rf rp pS pF pT pL op it isz wh dn wk me 0 ot) rfl ?_
    refine aw_iastN rfl rfl ⟨by omega, by omega⟩ ?_
    refine aw_go 6 70 [some (.ref 0), some (.int (nI c))] [] (moH lf rt nx sz hg nu hd cn nm le sy pl wa tx ts (upd ou k (nI c)) ((nI k) + 1) wd ws tw tg o1 s1 atp rf rp pS pF pT pL op it isz wh dn wk me 0 ot) rfl ?_
    exact aw_vret rfl rfl ⟨rfl, k + 1, _, hR.add.1 hlt, by rw [nI_succ]⟩ rfl (Nat.le_refl _) (Nat.le_refl _) -- [] (moH lf rt nx sz hg nu hd cn nm le sy pl wa tx ts (upd ou k (nI c)) ((nI k) + 1) wd ws tw tg o1 s1 atp rf rp pS pF pT pL op it isz wh dn wk me 0 ot)
set_option maxHeartbeats 2000000 in
set_option maxRecDepth 100000 in
theorem c_Mo_isFull_o (l : Launch) (lf rt nx sz hg : Nat → Int32) (nu : Nat → Int64) (hd : Nat → Int32) (cn : Int32) (nm le : Nat → Int32) (sy : Int32) (pl wa tx : Nat → Int32) (ts : Int32) (ou wd : Nat → Int32) (ws : Int32) (tw : Nat → Int32) (tg : Int32) (o1 : Nat → Int32) (s1 atp rf rp : Int32) (pS pF pT pL : Nat → Int32) (op : Int32) (it : Nat → Int32) (isz wh dn : Int32) (wk me ot : Nat → Int32) (k : Nat) (acc : List Nat) (hR : sh_R 2000 k ou acc) : Con l y_Mo_isFull M_Mo_isFull 0 0 [.ref 0] (moH lf rt nx sz hg nu hd cn nm le sy pl wa tx ts ou (nI k) wd ws tw tg o1 s1 atp rf rp pS pF pT pL op it isz wh dn wk me 0 ot) 25 0 0 0 (fun r h' => (acc.length < 2000 ∧ r = some (.int 0) ∧ h' = moH lf rt nx sz hg nu hd cn nm le sy pl wa tx ts ou (nI k) wd ws tw tg o1 s1 atp rf rp pS pF pT pL op it isz wh dn wk me 0 ot) ∨ (2000 ≤ acc.length ∧ r = some (.int 1) ∧ h' = moH lf rt nx sz hg nu hd cn nm le sy pl wa tx ts ou (nI k) wd ws tw tg o1 s1 atp rf rp pS pF pT pL op it isz wh dn wk me 0 ot)) := by
  have hk := hR.1
  refine Con.ent ok_Mo_isFull (by decide +kernel) rfl ?_
  intro pA eA sA mA argsA belowA methA cA GA μA
  refine aw_go 2 4 [some (.ref 0)] [.int 0] (moH lf rt nx sz hg nu hd cn nm le sy pl wa tx ts ou (nI k) wd ws tw tg o1 s1 atp rf rp pS pF pT pL op it isz wh dn wk me 0 ot) rfl ?_
  refine aw_if_eq rfl (fun h4 => ?_) (fun h4 => absurd h4 (by decide))
  refine aw_go 3 32 [some (.ref 0)] [.int 2000, .int (nI k)] (moH lf rt nx sz hg nu hd cn nm le sy pl wa tx ts ou (nI k) wd ws tw tg o1 s1 atp rf rp pS pF pT pL op it isz wh dn wk me 0 ot) rfl ?_
  refine aw_cmp_ne rfl (fun h32 => ?_) (fun h32 => ?_)
  · refine aw_go 1 40 [some (.ref 0)] [.int 0] (moH lf rt nx sz hg nu hd cn nm le sy pl wa tx ts ou (nI k) wd ws tw tg o1 s1 atp rf rp pS pF pT pL op it isz wh dn wk me 0 ot) rfl ?_
    exact aw_iret rfl (by decide) rfl (Or.inl ⟨by have : k ≠ 2000 := (fun z => h32 (by rw [z]; rfl)); omega, rfl, rfl⟩) rfl (Nat.le_refl _) (Nat.le_refl _) -- [.int 0] (moH lf rt nx sz hg nu hd cn nm le sy pl wa tx ts ou (nI k) wd ws tw tg o1 s1 atp rf rp pS pF pT pL op it isz wh dn wk me 0 ot)
  · refine aw_go 2 40 [some (.ref 0)] [.int 1] (moH lf rt nx sz hg nu hd cn nm le sy pl wa tx ts ou (nI k) wd ws tw tg o1 s1 atp rf rp pS pF pT pL op it isz wh dn wk me 0 ot) rfl ?_
    exact aw_iret rfl (by decide) rfl (Or.inr ⟨by have := nI_inj (b := 2000) (by omega) (by omega) h32; omega, rfl, rfl⟩) rfl (Nat.le_refl _) (Nat.le_refl _) -- [.int 1] (moH lf rt nx sz hg nu hd cn nm le sy pl wa tx ts ou (nI k) wd ws tw tg o1 s1 atp rf rp pS pF pT pL op it isz wh dn wk me 0 ot)
set_option maxHeartbeats 2000000 in
set_option maxRecDepth 100000 in
theorem c_Mo_tellAtom_o_s (l : Launch) (lf rt nx sz hg : Nat → Int32) (nu : Nat → Int64) (hd nm le pl wa tx : Nat → Int32) (ts : Int32) (ou wd : Nat → Int32) (ws : Int32) (tw : Nat → Int32) (tg : Int32) (o1 : Nat → Int32) (s1 atp rf rp : Int32) (pS pF pT pL : Nat → Int32) (op : Int32) (it : Nat → Int32) (isz wh dn : Int32) (wk me ot : Nat → Int32) (n ns : Nat) (t : Nat → Tr) (hm : mo_tb n ns lf rt nx hg nu hd nm le t) (k : Nat) (acc : List Nat) (hR : sh_R 2000 k ou acc) (o : Nat) (ho : o < n) (s : Nat) (hs : s < 3000) (w : List Nat) (hlf : lf o = -2) (hrt : rt o = nI s) (hsy : mo_sy nm le s w) : Con l y_Mo_tellAtom M_Mo_tellAtom 1 21 [.ref 0, .int (nI o)] (moH lf rt nx sz hg nu hd (nI n) nm le (nI ns) pl wa tx ts ou (nI k) wd ws tw tg o1 s1 atp rf rp pS pF pT pL op it isz wh dn wk me 0 ot) 25 0 0 0 (fun r h' => r = none ∧ ∃ k2 f2, sh_R 2000 k2 f2 (acc ++ w) ∧ h' = moH lf rt nx sz hg nu hd (nI n) nm le (nI ns) pl wa tx ts f2 (nI k2) wd ws tw tg o1 s1 atp rf rp pS pF pT pL op it isz wh dn wk me 0 ot) := by
  have h16 := hm.n16
  have hw11 := hsy.1.2.1
  refine Con.ent ok_Mo_tellAtom (by decide +kernel) rfl ?_
  intro pA eA sA mA argsA belowA methA cA GA μA
  refine aw_go 2 2 [some (.ref 0), some (.int (nI o)), none, none] [.int (nI o), .ref 0] (moH lf rt nx sz hg nu hd (nI n) nm le (nI ns) pl wa tx ts ou (nI k) wd ws tw tg o1 s1 atp rf rp pS pF pT pL op it isz wh dn wk me 0 ot) rfl ?_
  refine aw_cV [0, 1, 2, 3, 4, 5, 6, 7, 8, 9, 10, 11, 12, 13, 14, 15, 16, 17, 18, 19, 20, 21, 22, 23, 24] (c_Mo_isSymbol_2 l lf rt nx sz hg nu hd (nI n) nm le (nI ns) pl wa tx ts ou (nI k) wd ws tw tg o1 s1 atp rf rp pS pF pT pL op it isz wh dn wk me 0 ot o (by omega) hlf) rfl cw_Mo_209 rfl rfl rfl rfl rfl rfl (Nat.le_refl _) (Nat.le_refl _) (fun r h' hp => ?_)
  obtain ⟨rfl, rfl⟩ := hp
  refine aw_go 0 5 [some (.ref 0), some (.int (nI o)), none, none] [.int 1] (moH lf rt nx sz hg nu hd (nI n) nm le (nI ns) pl wa tx ts ou (nI k) wd ws tw tg o1 s1 atp rf rp pS pF pT pL op it isz wh dn wk me 0 ot) rfl ?_
  refine aw_if_eq rfl (fun h5 => absurd h5 (by decide)) (fun h5 => ?_)
  refine aw_go 2 10 [some (.ref 0), some (.int (nI o)), some (.int 0), none] [] (moH lf rt nx sz hg nu hd (nI n) nm le (nI ns) pl wa tx ts ou (nI k) wd ws tw tg o1 s1 atp rf rp pS pF pT pL op it isz wh dn wk me 0 ot) rfl ?_
  refine aw_loop (σ := Nat × am_H) (fun y => ∃ (k' : Nat) (f' : Nat → Int32), y.1 ≤ w.length ∧ sh_R 2000 k' f' (acc ++ w.take y.1) ∧ y.2 = moH lf rt nx sz hg nu hd (nI n) nm le (nI ns) pl wa tx ts f' (nI k') wd ws tw tg o1 s1 atp rf rp pS pF pT pL op it isz wh dn wk me 0 ot) (fun y => w.length - y.1) (fun y => [some (.ref 0), some (.int (nI o)), some (.int (nI y.1)), none]) (fun _ => []) (fun y => y.2) ?_ (0, moH lf rt nx sz hg nu hd (nI n) nm le (nI ns) pl wa tx ts ou (nI k) wd ws tw tg o1 s1 atp rf rp pS pF pT pL op it isz wh dn wk me 0 ot) ⟨k, ou, Nat.zero_le _, by rw [List.take_zero, List.append_nil]; exact hR, rfl⟩
  rintro ⟨q, hh⟩ ⟨k', f', hq, hR', he⟩ ih
  dsimp only at hq hR' he ih ⊢
  subst he
  refine aw_go 6 20 [some (.ref 0), some (.int (nI o)), some (.int (nI q)), none] [.int (nI o), .ref 2, .ref 9, .int (nI q)] (moH lf rt nx sz hg nu hd (nI n) nm le (nI ns) pl wa tx ts f' (nI k') wd ws tw tg o1 s1 atp rf rp pS pF pT pL op it isz wh dn wk me 0 ot) rfl ?_
  refine aw_ialdN rfl rfl ⟨by omega, by omega⟩ ?_
  rw [hrt]
  refine aw_ialdN rfl rfl ⟨by omega, by omega⟩ ?_
  rw [hsy.2.1]
  refine aw_cmp_ge rfl (fun h22 => ?_) (fun h22 => ?_)
  · exact aw_vret rfl rfl ⟨rfl, k', f', by rw [show q = w.length from (by have z := le_n (by omega) (by omega) h22; omega), List.take_length] at hR'; exact hR', rfl⟩ rfl (Nat.le_refl _) (Nat.le_refl _) -- [] (moH lf rt nx sz hg nu hd (nI n) nm le (nI ns) pl wa tx ts f' (nI k') wd ws tw tg o1 s1 atp rf rp pS pF pT pL op it isz wh dn wk me 0 ot)
  · have hq2 : q < w.length := Nat.not_le.mp fun z => h22 (nI_le z (by omega))
    refine aw_go 7 37 [some (.ref 0), some (.int (nI o)), some (.int (nI q)), none] [.int (nI o), .ref 2, .int 12, .ref 8, .ref 0] (moH lf rt nx sz hg nu hd (nI n) nm le (nI ns) pl wa tx ts f' (nI k') wd ws tw tg o1 s1 atp rf rp pS pF pT pL op it isz wh dn wk me 0 ot) rfl ?_
    refine aw_ialdN rfl rfl ⟨by omega, by omega⟩ ?_
    rw [hrt]
    refine aw_go 3 41 [some (.ref 0), some (.int (nI o)), some (.int (nI q)), none] [.int ((12 * (nI s)) + (nI q)), .ref 8, .ref 0] (moH lf rt nx sz hg nu hd (nI n) nm le (nI ns) pl wa tx ts f' (nI k') wd ws tw tg o1 s1 atp rf rp pS pF pT pL op it isz wh dn wk me 0 ot) rfl ?_
    rw [show (12 : Int32) * nI s = nI (12 * s) from pk_mul 12 s, nI_add]
    refine aw_ialdN rfl rfl ⟨by omega, by omega⟩ ?_
    rw [hsy.2.2 q hq2]
    refine aw_cV [0, 1, 2, 3, 4, 5, 6, 7, 8, 9, 10, 11, 12, 13, 14, 15, 16, 17, 18, 19, 20, 21, 22, 23, 24] (c_Mo_tellLetter_o l lf rt nx sz hg nu hd (nI n) nm le (nI ns) pl wa tx ts f' wd ws tw tg o1 s1 atp rf rp pS pF pT pL op it isz wh dn wk me ot k' (acc ++ w.take q) hR' (w.getD q 0)) rfl cw_Mo_212 rfl rfl rfl rfl rfl rfl (Nat.le_refl _) (Nat.le_refl _) (fun r h' hp => ?_)
    obtain ⟨rfl, k_42_1, f_42_1, hR_42_1, rfl⟩ := hp
    refine aw_go 2 10 [some (.ref 0), some (.int (nI o)), some (.int ((nI q) + 1)), none] [] (moH lf rt nx sz hg nu hd (nI n) nm le (nI ns) pl wa tx ts f_42_1 (nI k_42_1) wd ws tw tg o1 s1 atp rf rp pS pF pT pL op it isz wh dn wk me 0 ot) rfl ?_
    -- LOOP 10: [some (.ref 0), some (.int (nI o)), some (.int ((nI q) + 1)), none] [] (moH lf rt nx sz hg nu hd (nI n) nm le (nI ns) pl wa tx ts f_42_1 (nI k_42_1) wd ws tw tg o1 s1 atp rf rp pS pF pT pL op it isz wh dn wk me 0 ot)
    exact aw_eq (by simp only [nI_succ]) rfl rfl (ih (q + 1, _) ⟨k_42_1, f_42_1, by show q + 1 ≤ _; omega, by rw [take_s hq2, ← List.append_assoc]; exact hR_42_1, rfl⟩ (by show w.length - (q + 1) < w.length - q; omega))
set_option maxHeartbeats 2000000 in
set_option maxRecDepth 100000 in
theorem c_Mo_tellAtom_o_n (l : Launch) (lf rt nx sz hg : Nat → Int32) (nu : Nat → Int64) (hd nm le pl wa tx : Nat → Int32) (ts : Int32) (ou wd : Nat → Int32) (ws : Int32) (tw : Nat → Int32) (tg : Int32) (o1 : Nat → Int32) (s1 atp rf rp : Int32) (pS pF pT pL : Nat → Int32) (op : Int32) (it : Nat → Int32) (isz wh dn : Int32) (wk me ot : Nat → Int32) (n ns : Nat) (t : Nat → Tr) (hm : mo_tb n ns lf rt nx hg nu hd nm le t) (k : Nat) (acc : List Nat) (hR : sh_R 2000 k ou acc) (o : Nat) (ho : o < n) (v : Nat) (hv : v < 4611686018427387904) (hlf : lf o = -1) (hnu : nu o = lN v) : Con l y_Mo_tellAtom M_Mo_tellAtom 1 21 [.ref 0, .int (nI o)] (moH lf rt nx sz hg nu hd (nI n) nm le (nI ns) pl wa tx ts ou (nI k) wd ws tw tg o1 s1 atp rf rp pS pF pT pL op it isz wh dn wk me 0 ot) 25 0 0 0 (fun r h' => r = none ∧ ∃ k2 f2, sh_R 2000 k2 f2 (acc ++ (dl 10 (tl_K 10 v 18 1) v).map (am_ch 1)) ∧ h' = moH lf rt nx sz hg nu hd (nI n) nm le (nI ns) pl wa tx ts f2 (nI k2) wd ws tw tg o1 s1 atp rf rp pS pF pT pL op it isz wh dn wk me 0 ot) := by
  have h16 := hm.n16
  refine Con.ent ok_Mo_tellAtom (by decide +kernel) rfl ?_
  intro pA eA sA mA argsA belowA methA cA GA μA
  refine aw_go 2 2 [some (.ref 0), some (.int (nI o)), none, none] [.int (nI o), .ref 0] (moH lf rt nx sz hg nu hd (nI n) nm le (nI ns) pl wa tx ts ou (nI k) wd ws tw tg o1 s1 atp rf rp pS pF pT pL op it isz wh dn wk me 0 ot) rfl ?_
  refine aw_cV [0, 1, 2, 3, 4, 5, 6, 7, 8, 9, 10, 11, 12, 13, 14, 15, 16, 17, 18, 19, 20, 21, 22, 23, 24] (c_Mo_isSymbol_1 l lf rt nx sz hg nu hd (nI n) nm le (nI ns) pl wa tx ts ou (nI k) wd ws tw tg o1 s1 atp rf rp pS pF pT pL op it isz wh dn wk me 0 ot o (by omega) hlf) rfl cw_Mo_209 rfl rfl rfl rfl rfl rfl (Nat.le_refl _) (Nat.le_refl _) (fun r h' hp => ?_)
  obtain ⟨rfl, rfl⟩ := hp
  refine aw_go 0 5 [some (.ref 0), some (.int (nI o)), none, none] [.int 0] (moH lf rt nx sz hg nu hd (nI n) nm le (nI ns) pl wa tx ts ou (nI k) wd ws tw tg o1 s1 atp rf rp pS pF pT pL op it isz wh dn wk me 0 ot) rfl ?_
  refine aw_if_eq rfl (fun h5 => ?_) (fun h5 => absurd h5 (by decide))
  refine aw_go 2 54 [some (.ref 0), some (.int (nI o)), some (.long 1), none] [] (moH lf rt nx sz hg nu hd (nI n) nm le (nI ns) pl wa tx ts ou (nI k) wd ws tw tg o1 s1 atp rf rp pS pF pT pL op it isz wh dn wk me 0 ot) rfl ?_
  refine aw_loop (σ := Nat) (fun y => y ≤ 18 ∧ 10 ^ y ≤ max v 1 ∧ tl_K 10 v (18 - y) (y + 1) = (tl_K 10 v 18 1)) (fun y => 18 - y) (fun y => [some (.ref 0), some (.int (nI o)), some (.long (lN (10 ^ y))), none]) (fun _ => []) (fun _ => moH lf rt nx sz hg nu hd (nI n) nm le (nI ns) pl wa tx ts ou (nI k) wd ws tw tg o1 s1 atp rf rp pS pF pT pL op it isz wh dn wk me 0 ot) ?_ 0 ⟨Nat.zero_le _, by rw [Nat.pow_zero]; omega, rfl⟩
  rintro q ⟨hq, hp, hI⟩ ih
  have hpp : 0 < 10 ^ q := Nat.pow_pos (by omega)
  refine aw_go 3 59 [some (.ref 0), some (.int (nI o)), some (.long (lN (10 ^ q))), none] [.int (nI o), .ref 6] (moH lf rt nx sz hg nu hd (nI n) nm le (nI ns) pl wa tx ts ou (nI k) wd ws tw tg o1 s1 atp rf rp pS pF pT pL op it isz wh dn wk me 0 ot) rfl ?_
  refine aw_laldN rfl rfl ⟨by omega, by omega⟩ ?_
  rw [hnu]
  refine aw_go 1 61 [some (.ref 0), some (.int (nI o)), some (.long (lN (10 ^ q))), none] [.long (lN (10 ^ q)), .long (lN v)] (moH lf rt nx sz hg nu hd (nI n) nm le (nI ns) pl wa tx ts ou (nI k) wd ws tw tg o1 s1 atp rf rp pS pF pT pL op it isz wh dn wk me 0 ot) rfl ?_
  refine aw_ldiv rfl (fun z => by have := (pk_lEQ (a := 10 ^ q) (b := 0) (by omega) (by omega)).mp z; omega) ?_
  rw [show lN v / lN (10 ^ q) = lN (v / 10 ^ q) from pk_lDiv (by omega) hpp (by omega)]
  have hdv := Nat.div_le_self v (10 ^ q)
  refine aw_go 2 66 [some (.ref 0), some (.int (nI o)), some (.long (lN (10 ^ q))), none] [.int (lg_cmp (lN (v / 10 ^ q)) 10)] (moH lf rt nx sz hg nu hd (nI n) nm le (nI ns) pl wa tx ts ou (nI k) wd ws tw tg o1 s1 atp rf rp pS pF pT pL op it isz wh dn wk me 0 ot) rfl ?_
  refine aw_if_lt rfl (fun h66 => ?_) (fun h66 => ?_)
  · -- LOOP 78: [some (.ref 0), some (.int (nI o)), some (.long (lN (10 ^ q))), none] [] (moH lf rt nx sz hg nu hd (nI n) nm le (nI ns) pl wa tx ts ou (nI k) wd ws tw tg o1 s1 atp rf rp pS pF pT pL op it isz wh dn wk me 0 ot)
    have hKq : (tl_K 10 v 18 1) = q + 1 := (by rw [← hI]; exact tl_K_stop (fun z => by have h8 := (lc_lt (b := 10) (by omega) (by omega)).mp h66; rw [Nat.pow_succ, Nat.mul_comm] at z; have := (Nat.le_div_iff_mul_le hpp).mpr z; omega))
    rw [show 10 ^ q = un 10 (tl_K 10 v 18 1) from (by rw [hKq]; rfl)]
    refine aw_loop (σ := Nat × am_H) (fun y => ∃ (k' : Nat) (f' : Nat → Int32) (acc' : List Nat), y.1 ≤ (tl_K 10 v 18 1) ∧ sh_R 2000 k' f' acc' ∧ acc' ++ (dl 10 y.1 v).map (am_ch 1) = acc ++ (dl 10 (tl_K 10 v 18 1) v).map (am_ch 1) ∧ y.2 = moH lf rt nx sz hg nu hd (nI n) nm le (nI ns) pl wa tx ts f' (nI k') wd ws tw tg o1 s1 atp rf rp pS pF pT pL op it isz wh dn wk me 0 ot) (fun y => y.1) (fun y => [some (.ref 0), some (.int (nI o)), some (.long (lN (un 10 y.1))), none]) (fun _ => []) (fun y => y.2) ?_ ((tl_K 10 v 18 1), moH lf rt nx sz hg nu hd (nI n) nm le (nI ns) pl wa tx ts ou (nI k) wd ws tw tg o1 s1 atp rf rp pS pF pT pL op it isz wh dn wk me 0 ot) ⟨k, ou, acc, Nat.le_refl _, hR, rfl, rfl⟩
    rintro ⟨q, hh⟩ ⟨k', f', acc', hq, hR', hI, he⟩ ih2
    dsimp only at hq hR' hI he ih2 ⊢
    subst he
    refine aw_go 3 81 [some (.ref 0), some (.int (nI o)), some (.long (lN (un 10 q))), none] [.int (lg_cmp (lN (un 10 q)) 0)] (moH lf rt nx sz hg nu hd (nI n) nm le (nI ns) pl wa tx ts f' (nI k') wd ws tw tg o1 s1 atp rf rp pS pF pT pL op it isz wh dn wk me 0 ot) rfl ?_
    refine aw_if_le rfl (fun h81 => ?_) (fun h81 => ?_)
    · have hq0 : q = 0 := un_0 (b := 10) (by omega) (lt_of_le2 (tl_K_le2 (b := 10) (v := v) (q := 18) (k := 1) hq rfl) hv) h81
      exact aw_vret rfl rfl ⟨rfl, k', f', by rw [← hI, hq0, show (dl 10 0 v).map (am_ch 1) = [] from rfl, List.append_nil]; exact hR', rfl⟩ rfl (Nat.le_refl _) (Nat.le_refl _) -- [] (moH lf rt nx sz hg nu hd (nI n) nm le (nI ns) pl wa tx ts f' (nI k') wd ws tw tg o1 s1 atp rf rp pS pF pT pL op it isz wh dn wk me 0 ot)
    · obtain ⟨q1, rfl⟩ : ∃ z, q = z + 1 := ⟨q - 1, by have h9 : q ≠ 0 := (fun z => h81 (by rw [z]; decide)); omega⟩
      rw [show un 10 (q1 + 1) = 10 ^ q1 from rfl]
      have hpw := tl_K_le (b := 10) (v := v) (j := q1) (q := 18) (k := 1) (by omega) (by omega)
      have hpp : 0 < 10 ^ q1 := Nat.pow_pos (by omega)
      have hd10 := Nat.mod_lt (v / 10 ^ q1) (show 10 > 0 by omega)
      refine aw_go 5 92 [some (.ref 0), some (.int (nI o)), some (.long (lN (10 ^ q1))), none] [.int (nI o), .ref 6, .int 48, .ref 0] (moH lf rt nx sz hg nu hd (nI n) nm le (nI ns) pl wa tx ts f' (nI k') wd ws tw tg o1 s1 atp rf rp pS pF pT pL op it isz wh dn wk me 0 ot) rfl ?_
      refine aw_laldN rfl rfl ⟨by omega, by omega⟩ ?_
      rw [hnu]
      refine aw_go 1 94 [some (.ref 0), some (.int (nI o)), some (.long (lN (10 ^ q1))), none] [.long (lN (10 ^ q1)), .long (lN v), .int 48, .ref 0] (moH lf rt nx sz hg nu hd (nI n) nm le (nI ns) pl wa tx ts f' (nI k') wd ws tw tg o1 s1 atp rf rp pS pF pT pL op it isz wh dn wk me 0 ot) rfl ?_
      refine aw_ldiv rfl (fun z => by have := (pk_lEQ (a := 10 ^ q1) (b := 0) (by omega) (by omega)).mp z; omega) ?_
      rw [show lN v / lN (10 ^ q1) = lN (v / 10 ^ q1) from pk_lDiv (by omega) hpp (by omega)]
      refine aw_go 1 98 [some (.ref 0), some (.int (nI o)), some (.long (lN (10 ^ q1))), none] [.long 10, .long (lN (v / 10 ^ q1)), .int 48, .ref 0] (moH lf rt nx sz hg nu hd (nI n) nm le (nI ns) pl wa tx ts f' (nI k') wd ws tw tg o1 s1 atp rf rp pS pF pT pL op it isz wh dn wk me 0 ot) rfl ?_
      refine aw_lrem rfl (by decide) ?_
      rw [show lN (v / 10 ^ q1) - lN (v / 10 ^ q1) / 10 * 10 = lN (v / 10 ^ q1 % 10) from pk_lRem (b := 10) (by have := Nat.div_le_self v (10 ^ q1); omega) (by omega) (by omega)]
      refine aw_go 2 101 [some (.ref 0), some (.int (nI o)), some (.long (lN (10 ^ q1))), none] [.int (48 + (Int64.toInt32 (lN (v / 10 ^ q1 % 10)))), .ref 0] (moH lf rt nx sz hg nu hd (nI n) nm le (nI ns) pl wa tx ts f' (nI k') wd ws tw tg o1 s1 atp rf rp pS pF pT pL op it isz wh dn wk me 0 ot) rfl ?_
      rw [show (48 : Int32) + Int64.toInt32 (lN (v / 10 ^ q1 % 10)) = nI (am_ch 1 (v / 10 ^ q1 % 10)) from (by rw [lN_i, am_ch1 _ hd10]; exact nI_add 48 _)]
      refine aw_cV [0, 1, 2, 3, 4, 5, 6, 7, 8, 9, 10, 11, 12, 13, 14, 15, 16, 17, 18, 19, 20, 21, 22, 23, 24] (c_Mo_tellLetter_o l lf rt nx sz hg nu hd (nI n) nm le (nI ns) pl wa tx ts f' wd ws tw tg o1 s1 atp rf rp pS pF pT pL op it isz wh dn wk me ot k' (acc') hR' (am_ch 1 (v / 10 ^ q1 % 10))) rfl cw_Mo_212 rfl rfl rfl rfl rfl rfl (Nat.le_refl _) (Nat.le_refl _) (fun r h' hp => ?_)
      obtain ⟨rfl, k_101_1, f_101_1, hR_101_1, rfl⟩ := hp
      refine aw_go 2 108 [some (.ref 0), some (.int (nI o)), some (.long (lN (10 ^ q1))), none] [.long 10, .long (lN (10 ^ q1))] (moH lf rt nx sz hg nu hd (nI n) nm le (nI ns) pl wa tx ts f_101_1 (nI k_101_1) wd ws tw tg o1 s1 atp rf rp pS pF pT pL op it isz wh dn wk me 0 ot) rfl ?_
      refine aw_ldiv rfl (by decide) ?_
      rw [show lN (10 ^ q1) / 10 = lN (un 10 q1) from (by rw [← un_div (by omega : 2 ≤ 10)]; exact pk_lDiv (b := 10) (by omega) (by omega) (by omega))]
      refine aw_go 2 78 [some (.ref 0), some (.int (nI o)), some (.long (lN (un 10 q1))), none] [] (moH lf rt nx sz hg nu hd (nI n) nm le (nI ns) pl wa tx ts f_101_1 (nI k_101_1) wd ws tw tg o1 s1 atp rf rp pS pF pT pL op it isz wh dn wk me 0 ot) rfl ?_
      -- LOOP 78: [some (.ref 0), some (.int (nI o)), some (.long (lN (un 10 q1))), none] [] (moH lf rt nx sz hg nu hd (nI n) nm le (nI ns) pl wa tx ts f_101_1 (nI k_101_1) wd ws tw tg o1 s1 atp rf rp pS pF pT pL op it isz wh dn wk me 0 ot)
      exact aw_eq rfl rfl rfl (ih2 (q1, _) ⟨k_101_1, f_101_1, _, by show q1 ≤ _; omega, hR_101_1, by show _ ++ _ ++ _ = _; rw [← hI, List.append_assoc]; rfl, rfl⟩ (by show q1 < q1 + 1; omega))
  · have hle : 10 ^ (q + 1) ≤ v := (by have h8 : ¬ v / 10 ^ q < 10 := (fun z => h66 ((lc_lt (b := 10) (by omega) (by omega)).mpr z)); rw [Nat.pow_succ, Nat.mul_comm]; exact (Nat.le_div_iff_mul_le hpp).mp (by omega))
    have hq18 : q < 18 := Nat.not_le.mp fun z => by have : 10 ^ 19 ≤ 10 ^ (q + 1) := Nat.pow_le_pow_right (by omega) (by omega); omega
    refine aw_go 3 74 [some (.ref 0), some (.int (nI o)), some (.long (lN (10 ^ q))), none] [.long (10 * (lN (10 ^ q)))] (moH lf rt nx sz hg nu hd (nI n) nm le (nI ns) pl wa tx ts ou (nI k) wd ws tw tg o1 s1 atp rf rp pS pF pT pL op it isz wh dn wk me 0 ot) rfl ?_
    rw [show 10 * lN (10 ^ q) = lN (10 ^ (q + 1)) from (by rw [show (10 : Int64) = lN 10 from rfl, lN_mul, Nat.pow_succ, Nat.mul_comm])]
    refine aw_go 2 54 [some (.ref 0), some (.int (nI o)), some (.long (lN (10 ^ (q + 1)))), none] [] (moH lf rt nx sz hg nu hd (nI n) nm le (nI ns) pl wa tx ts ou (nI k) wd ws tw tg o1 s1 atp rf rp pS pF pT pL op it isz wh dn wk me 0 ot) rfl ?_
    -- LOOP 54: [some (.ref 0), some (.int (nI o)), some (.long (lN (10 ^ (q + 1)))), none] [] (moH lf rt nx sz hg nu hd (nI n) nm le (nI ns) pl wa tx ts ou (nI k) wd ws tw tg o1 s1 atp rf rp pS pF pT pL op it isz wh dn wk me 0 ot)
    exact aw_eq rfl rfl rfl (ih (q + 1) ⟨by omega, by omega, by rw [← hI, tl_K_go hq18 hle]⟩ (by omega))
theorem c_Mo_tellAtom_o (l : Launch) (lf rt nx sz hg : Nat → Int32) (nu : Nat → Int64) (hd nm le pl wa tx : Nat → Int32) (ts : Int32) (ou wd : Nat → Int32) (ws : Int32) (tw : Nat → Int32) (tg : Int32) (o1 : Nat → Int32) (s1 atp rf rp : Int32) (pS pF pT pL : Nat → Int32) (op : Int32) (it : Nat → Int32) (isz wh dn : Int32) (wk me ot : Nat → Int32) (n ns : Nat) (t : Nat → Tr) (hm : mo_tb n ns lf rt nx hg nu hd nm le t) (k : Nat) (acc : List Nat) (hR : sh_R 2000 k ou acc) (o : Nat) (ho : o < n) (c : Nat) (hT : t o = .var c) : Con l y_Mo_tellAtom M_Mo_tellAtom 1 21 [.ref 0, .int (nI o)] (moH lf rt nx sz hg nu hd (nI n) nm le (nI ns) pl wa tx ts ou (nI k) wd ws tw tg o1 s1 atp rf rp pS pF pT pL op it isz wh dn wk me 0 ot) 25 0 0 0 (fun r h' => r = none ∧ ∃ k2 f2, sh_R 2000 k2 f2 (acc ++ tl_at c) ∧ h' = moH lf rt nx sz hg nu hd (nI n) nm le (nI ns) pl wa tx ts f2 (nI k2) wd ws tw tg o1 s1 atp rf rp pS pF pT pL op it isz wh dn wk me 0 ot) := by
  have h16 := hm.n16
  rcases hm.at ho hT with ⟨hlf, v, hv, hnu, rfl⟩ | ⟨hlf, s, w, hs, hrt, hsy, rfl⟩
  · have e : tl_at (2 * v) = (dl 10 (tl_K 10 v 18 1) v).map (am_ch 1) := by
      unfold tl_at
      rw [if_pos (by omega), show 2 * v / 2 = v by omega]
    rw [e]
    exact c_Mo_tellAtom_o_n l lf rt nx sz hg nu hd nm le pl wa tx ts ou wd ws tw tg o1 s1 atp rf rp pS pF pT pL op it isz wh dn wk me ot n ns t hm k acc hR o ho v hv hlf hnu
  · rw [wt hsy.1]
    exact c_Mo_tellAtom_o_s l lf rt nx sz hg nu hd nm le pl wa tx ts ou wd ws tw tg o1 s1 atp rf rp pS pF pT pL op it isz wh dn wk me ot n ns t hm k acc hR o ho s (by omega) w hlf hrt hsy
set_option maxHeartbeats 2000000 in
set_option maxRecDepth 100000 in
theorem c_Mo_tellLetter_s (l : Launch) (lf rt nx sz hg : Nat → Int32) (nu : Nat → Int64) (hd : Nat → Int32) (cn : Int32) (nm le : Nat → Int32) (sy : Int32) (pl wa tx : Nat → Int32) (ts : Int32) (ou : Nat → Int32) (os : Int32) (wd : Nat → Int32) (ws : Int32) (tw : Nat → Int32) (tg : Int32) (o1 : Nat → Int32) (atp rf rp : Int32) (pS pF pT pL : Nat → Int32) (op : Int32) (it : Nat → Int32) (isz wh dn : Int32) (wk me ot : Nat → Int32) (k : Nat) (acc : List Nat) (hR : sh_R 200 k o1 acc) (c : Nat) : Con l y_Mo_tellLetter M_Mo_tellLetter 0 0 [.ref 0, .int (nI c)] (moH lf rt nx sz hg nu hd cn nm le sy pl wa tx ts ou os wd ws tw tg o1 (nI k) atp rf rp pS pF pT pL op it isz wh dn wk me 1 ot) 25 0 0 0 (fun r h' => r = none ∧ ∃ k2 f2, sh_R 200 k2 f2 (acc ++ [c]) ∧ h' = moH lf rt nx sz hg nu hd cn nm le sy pl wa tx ts ou os wd ws tw tg f2 (nI k2) atp rf rp pS pF pT pL op it isz wh dn wk me 1 ot) := by
  have hk := hR.1
  refine Con.ent ok_Mo_tellLetter (by decide +kernel) rfl ?_
  intro pA eA sA mA argsA belowA methA cA GA μA
  refine aw_go 2 4 [some (.ref 0), some (.int (nI c))] [.int 1] (moH lf rt nx sz hg nu hd cn nm le sy pl wa tx ts ou os wd ws tw tg o1 (nI k) atp rf rp pS pF pT pL op it isz wh dn wk me 1 ot) rfl ?_
  refine aw_if_eq rfl (fun h4 => absurd h4 (by decide)) (fun h4 => ?_)
  refine aw_go 3 14 [some (.ref 0), some (.int (nI c))] [.int 200, .int (nI k)] (moH lf rt nx sz hg nu hd cn nm le sy pl wa tx ts ou os wd ws tw tg o1 (nI k) atp rf rp pS pF pT pL op it isz wh dn wk me 1 ot) rfl ?_
  refine aw_cmp_ge rfl (fun h14 => ?_) (fun h14 => ?_)
  · exact aw_vret rfl rfl ⟨rfl, k, o1, hR.add.2 (by have := le_n (c := 200) (k := k) (by omega) (by omega) h14; omega), rfl⟩ rfl (Nat.le_refl _) (Nat.le_refl _) -- [] (moH lf rt nx sz hg nu hd cn nm le sy pl wa tx ts ou os wd ws tw tg o1 (nI k) atp rf rp pS pF pT pL op it isz wh dn wk me 1 ot)
  · have hlt : k < 200 := Nat.not_le.mp fun z => h14 (nI_le (a := 200) z (by omega))
    refine aw_go 5 26 [some (.ref 0), some (.int (nI c))] [.int (nI c), .int (nI k), .ref 16] (moH lf rt nx sz hg nu hd cn nm le sy pl wa tx ts ou os wd ws tw tg o1 (nI k) atp rf rp pS pF pT pL op it isz wh dn wk me 1 ot) rfl ?_
    refine aw_iastN rfl rfl ⟨by omega, by omega⟩ ?_
    refine aw_go 7 70 [some (.ref 0), some (.int (nI c))] [] (moH lf rt nx sz hg nu hd cn nm le sy pl wa tx ts ou os wd ws tw tg (upd o1 k (nI c)) ((nI k) + 1) atp rf rp pS pF pT pL op it isz wh dn wk me 1 ot) rfl ?_
    exact aw_vret rfl rfl ⟨rfl, k + 1, _, hR.add.1 hlt, by rw [nI_succ]⟩ rfl (Nat.le_refl _) (Nat.le_refl _) -- [] (moH lf rt nx sz hg nu hd cn nm le sy pl wa tx ts ou os wd ws tw tg (upd o1 k (nI c)) ((nI k) + 1) atp rf rp pS pF pT pL op it isz wh dn wk me 1 ot)
set_option maxHeartbeats 2000000 in
set_option maxRecDepth 100000 in
theorem c_Mo_isFull_s (l : Launch) (lf rt nx sz hg : Nat → Int32) (nu : Nat → Int64) (hd : Nat → Int32) (cn : Int32) (nm le : Nat → Int32) (sy : Int32) (pl wa tx : Nat → Int32) (ts : Int32) (ou : Nat → Int32) (os : Int32) (wd : Nat → Int32) (ws : Int32) (tw : Nat → Int32) (tg : Int32) (o1 : Nat → Int32) (atp rf rp : Int32) (pS pF pT pL : Nat → Int32) (op : Int32) (it : Nat → Int32) (isz wh dn : Int32) (wk me ot : Nat → Int32) (k : Nat) (acc : List Nat) (hR : sh_R 200 k o1 acc) : Con l y_Mo_isFull M_Mo_isFull 0 0 [.ref 0] (moH lf rt nx sz hg nu hd cn nm le sy pl wa tx ts ou os wd ws tw tg o1 (nI k) atp rf rp pS pF pT pL op it isz wh dn wk me 1 ot) 25 0 0 0 (fun r h' => (acc.length < 200 ∧ r = some (.int 0) ∧ h' = moH lf rt nx sz hg nu hd cn nm le sy pl wa tx ts ou os wd ws tw tg o1 (nI k) atp rf rp pS pF pT pL op it isz wh dn wk me 1 ot) ∨ (200 ≤ acc.length ∧ r = some (.int 1) ∧ h' = moH lf rt nx sz hg nu hd cn nm le sy pl wa tx ts ou os wd ws tw tg o1 (nI k) atp rf rp pS pF pT pL op it isz wh dn wk me 1 ot)) := by
  have hk := hR.1
  refine Con.ent ok_Mo_isFull (by decide +kernel) rfl ?_
  intro pA eA sA mA argsA belowA methA cA GA μA
  refine aw_go 2 4 [some (.ref 0)] [.int 1] (moH lf rt nx sz hg nu hd cn nm le sy pl wa tx ts ou os wd ws tw tg o1 (nI k) atp rf rp pS pF pT pL op it isz wh dn wk me 1 ot) rfl ?_
  refine aw_if_eq rfl (fun h4 => absurd h4 (by decide)) (fun h4 => ?_)
  refine aw_go 3 14 [some (.ref 0)] [.int 200, .int (nI k)] (moH lf rt nx sz hg nu hd cn nm le sy pl wa tx ts ou os wd ws tw tg o1 (nI k) atp rf rp pS pF pT pL op it isz wh dn wk me 1 ot) rfl ?_
  refine aw_cmp_ne rfl (fun h14 => ?_) (fun h14 => ?_)
  · refine aw_go 2 40 [some (.ref 0)] [.int 0] (moH lf rt nx sz hg nu hd cn nm le sy pl wa tx ts ou os wd ws tw tg o1 (nI k) atp rf rp pS pF pT pL op it isz wh dn wk me 1 ot) rfl ?_
    exact aw_iret rfl (by decide) rfl (Or.inl ⟨by have : k ≠ 200 := (fun z => h14 (by rw [z]; rfl)); omega, rfl, rfl⟩) rfl (Nat.le_refl _) (Nat.le_refl _) -- [.int 0] (moH lf rt nx sz hg nu hd cn nm le sy pl wa tx ts ou os wd ws tw tg o1 (nI k) atp rf rp pS pF pT pL op it isz wh dn wk me 1 ot)
  · refine aw_go 2 40 [some (.ref 0)] [.int 1] (moH lf rt nx sz hg nu hd cn nm le sy pl wa tx ts ou os wd ws tw tg o1 (nI k) atp rf rp pS pF pT pL op it isz wh dn wk me 1 ot) rfl ?_
    exact aw_iret rfl (by decide) rfl (Or.inr ⟨by have := nI_inj (b := 200) (by omega) (by omega) h14; omega, rfl, rfl⟩) rfl (Nat.le_refl _) (Nat.le_refl _) -- [.int 1] (moH lf rt nx sz hg nu hd cn nm le sy pl wa tx ts ou os wd ws tw tg o1 (nI k) atp rf rp pS pF pT pL op it isz wh dn wk me 1 ot)
set_option maxHeartbeats 2000000 in
set_option maxRecDepth 100000 in
theorem c_Mo_tellAtom_s_s (l : Launch) (lf rt nx sz hg : Nat → Int32) (nu : Nat → Int64) (hd nm le pl wa tx : Nat → Int32) (ts : Int32) (ou : Nat → Int32) (os : Int32) (wd : Nat → Int32) (ws : Int32) (tw : Nat → Int32) (tg : Int32) (o1 : Nat → Int32) (atp rf rp : Int32) (pS pF pT pL : Nat → Int32) (op : Int32) (it : Nat → Int32) (isz wh dn : Int32) (wk me ot : Nat → Int32) (n ns : Nat) (t : Nat → Tr) (hm : mo_tb n ns lf rt nx hg nu hd nm le t) (k : Nat) (acc : List Nat) (hR : sh_R 200 k o1 acc) (o : Nat) (ho : o < n) (s : Nat) (hs : s < 3000) (w : List Nat) (hlf : lf o = -2) (hrt : rt o = nI s) (hsy : mo_sy nm le s w) : Con l y_Mo_tellAtom M_Mo_tellAtom 1 21 [.ref 0, .int (nI o)] (moH lf rt nx sz hg nu hd (nI n) nm le (nI ns) pl wa tx ts ou os wd ws tw tg o1 (nI k) atp rf rp pS pF pT pL op it isz wh dn wk me 1 ot) 25 0 0 0 (fun r h' => r = none ∧ ∃ k2 f2, sh_R 200 k2 f2 (acc ++ w) ∧ h' = moH lf rt nx sz hg nu hd (nI n) nm le (nI ns) pl wa tx ts ou os wd ws tw tg f2 (nI k2) atp rf rp pS pF pT pL op it isz wh dn wk me 1 ot) := by
  have h16 := hm.n16
  have hw11 := hsy.1.2.1
  refine Con.ent ok_Mo_tellAtom (by decide +kernel) rfl ?_
  intro pA eA sA mA argsA belowA methA cA GA μA
  refine aw_go 2 2 [some (.ref 0), some (.int (nI o)), none, none] [.int (nI o), .ref 0] (moH lf rt nx sz hg nu hd (nI n) nm le (nI ns) pl wa tx ts ou os wd ws tw tg o1 (nI k) atp rf rp pS pF pT pL op it isz wh dn wk me 1 ot) rfl ?_
  refine aw_cV [0, 1, 2, 3, 4, 5, 6, 7, 8, 9, 10, 11, 12, 13, 14, 15, 16, 17, 18, 19, 20, 21, 22, 23, 24] (c_Mo_isSymbol_2 l lf rt nx sz hg nu hd (nI n) nm le (nI ns) pl wa tx ts ou os wd ws tw tg o1 (nI k) atp rf rp pS pF pT pL op it isz wh dn wk me 1 ot o (by omega) hlf) rfl cw_Mo_209 rfl rfl rfl rfl rfl rfl (Nat.le_refl _) (Nat.le_refl _) (fun r h' hp => ?_)
  obtain ⟨rfl, rfl⟩ := hp
  refine aw_go 0 5 [some (.ref 0), some (.int (nI o)), none, none] [.int 1] (moH lf rt nx sz hg nu hd (nI n) nm le (nI ns) pl wa tx ts ou os wd ws tw tg o1 (nI k) atp rf rp pS pF pT pL op it isz wh dn wk me 1 ot) rfl ?_
  refine aw_if_eq rfl (fun h5 => absurd h5 (by decide)) (fun h5 => ?_)
  refine aw_go 2 10 [some (.ref 0), some (.int (nI o)), some (.int 0), none] [] (moH lf rt nx sz hg nu hd (nI n) nm le (nI ns) pl wa tx ts ou os wd ws tw tg o1 (nI k) atp rf rp pS pF pT pL op it isz wh dn wk me 1 ot) rfl ?_
  refine aw_loop (σ := Nat × am_H) (fun y => ∃ (k' : Nat) (f' : Nat → Int32), y.1 ≤ w.length ∧ sh_R 200 k' f' (acc ++ w.take y.1) ∧ y.2 = moH lf rt nx sz hg nu hd (nI n) nm le (nI ns) pl wa tx ts ou os wd ws tw tg f' (nI k') atp rf rp pS pF pT pL op it isz wh dn wk me 1 ot) (fun y => w.length - y.1) (fun y => [some (.ref 0), some (.int (nI o)), some (.int (nI y.1)), none]) (fun _ => []) (fun y => y.2) ?_ (0, moH lf rt nx sz hg nu hd (nI n) nm le (nI ns) pl wa tx ts ou os wd ws tw tg o1 (nI k) atp rf rp pS pF pT pL op it isz wh dn wk me 1 ot) ⟨k, o1, Nat.zero_le _, by rw [List.take_zero, List.append_nil]; exact hR, rfl⟩
  rintro ⟨q, hh⟩ ⟨k', f', hq, hR', he⟩ ih
  dsimp only at hq hR' he ih ⊢
  subst he
  refine aw_go 6 20 [some (.ref 0), some (.int (nI o)), some (.int (nI q)), none] [.int (nI o), .ref 2, .ref 9, .int (nI q)] (moH lf rt nx sz hg nu hd (nI n) nm le (nI ns) pl wa tx ts ou os wd ws tw tg f' (nI k') atp rf rp pS pF pT pL op it isz wh dn wk me 1 ot) rfl ?_
  refine aw_ialdN rfl rfl ⟨by omega, by omega⟩ ?_
  rw [hrt]
  refine aw_ialdN rfl rfl ⟨by omega, by omega⟩ ?_
  rw [hsy.2.1]
  refine aw_cmp_ge rfl (fun h22 => ?_) (fun h22 => ?_)
  · exact aw_vret rfl rfl ⟨rfl, k', f', by rw [show q = w.length from (by have z := le_n (by omega) (by omega) h22; omega), List.take_length] at hR'; exact hR', rfl⟩ rfl (Nat.le_refl _) (Nat.le_refl _) -- [] (moH lf rt nx sz hg nu hd (nI n) nm le (nI ns) pl wa tx ts ou os wd ws tw tg f' (nI k') atp rf rp pS pF pT pL op it isz wh dn wk me 1 ot)
  · have hq2 : q < w.length := Nat.not_le.mp fun z => h22 (nI_le z (by omega))
    refine aw_go 7 37 [some (.ref 0), some (.int (nI o)), some (.int (nI q)), none] [.int (nI o), .ref 2, .int 12, .ref 8, .ref 0] (moH lf rt nx sz hg nu hd (nI n) nm le (nI ns) pl wa tx ts ou os wd ws tw tg f' (nI k') atp rf rp pS pF pT pL op it isz wh dn wk me 1 ot) rfl ?_
    refine aw_ialdN rfl rfl ⟨by omega, by omega⟩ ?_
    rw [hrt]
    refine aw_go 3 41 [some (.ref 0), some (.int (nI o)), some (.int (nI q)), none] [.int ((12 * (nI s)) + (nI q)), .ref 8, .ref 0] (moH lf rt nx sz hg nu hd (nI n) nm le (nI ns) pl wa tx ts ou os wd ws tw tg f' (nI k') atp rf rp pS pF pT pL op it isz wh dn wk me 1 ot) rfl ?_
    rw [show (12 : Int32) * nI s = nI (12 * s) from pk_mul 12 s, nI_add]
    refine aw_ialdN rfl rfl ⟨by omega, by omega⟩ ?_
    rw [hsy.2.2 q hq2]
    refine aw_cV [0, 1, 2, 3, 4, 5, 6, 7, 8, 9, 10, 11, 12, 13, 14, 15, 16, 17, 18, 19, 20, 21, 22, 23, 24] (c_Mo_tellLetter_s l lf rt nx sz hg nu hd (nI n) nm le (nI ns) pl wa tx ts ou os wd ws tw tg f' atp rf rp pS pF pT pL op it isz wh dn wk me ot k' (acc ++ w.take q) hR' (w.getD q 0)) rfl cw_Mo_212 rfl rfl rfl rfl rfl rfl (Nat.le_refl _) (Nat.le_refl _) (fun r h' hp => ?_)
    obtain ⟨rfl, k_42_1, f_42_1, hR_42_1, rfl⟩ := hp
    refine aw_go 2 10 [some (.ref 0), some (.int (nI o)), some (.int ((nI q) + 1)), none] [] (moH lf rt nx sz hg nu hd (nI n) nm le (nI ns) pl wa tx ts ou os wd ws tw tg f_42_1 (nI k_42_1) atp rf rp pS pF pT pL op it isz wh dn wk me 1 ot) rfl ?_
    -- LOOP 10: [some (.ref 0), some (.int (nI o)), some (.int ((nI q) + 1)), none] [] (moH lf rt nx sz hg nu hd (nI n) nm le (nI ns) pl wa tx ts ou os wd ws tw tg f_42_1 (nI k_42_1) atp rf rp pS pF pT pL op it isz wh dn wk me 1 ot)
    exact aw_eq (by simp only [nI_succ]) rfl rfl (ih (q + 1, _) ⟨k_42_1, f_42_1, by show q + 1 ≤ _; omega, by rw [take_s hq2, ← List.append_assoc]; exact hR_42_1, rfl⟩ (by show w.length - (q + 1) < w.length - q; omega))
set_option maxHeartbeats 2000000 in
set_option maxRecDepth 100000 in
theorem c_Mo_tellAtom_s_n (l : Launch) (lf rt nx sz hg : Nat → Int32) (nu : Nat → Int64) (hd nm le pl wa tx : Nat → Int32) (ts : Int32) (ou : Nat → Int32) (os : Int32) (wd : Nat → Int32) (ws : Int32) (tw : Nat → Int32) (tg : Int32) (o1 : Nat → Int32) (atp rf rp : Int32) (pS pF pT pL : Nat → Int32) (op : Int32) (it : Nat → Int32) (isz wh dn : Int32) (wk me ot : Nat → Int32) (n ns : Nat) (t : Nat → Tr) (hm : mo_tb n ns lf rt nx hg nu hd nm le t) (k : Nat) (acc : List Nat) (hR : sh_R 200 k o1 acc) (o : Nat) (ho : o < n) (v : Nat) (hv : v < 4611686018427387904) (hlf : lf o = -1) (hnu : nu o = lN v) : Con l y_Mo_tellAtom M_Mo_tellAtom 1 21 [.ref 0, .int (nI o)] (moH lf rt nx sz hg nu hd (nI n) nm le (nI ns) pl wa tx ts ou os wd ws tw tg o1 (nI k) atp rf rp pS pF pT pL op it isz wh dn wk me 1 ot) 25 0 0 0 (fun r h' => r = none ∧ ∃ k2 f2, sh_R 200 k2 f2 (acc ++ (dl 10 (tl_K 10 v 18 1) v).map (am_ch 1)) ∧ h' = moH lf rt nx sz hg nu hd (nI n) nm le (nI ns) pl wa tx ts ou os wd ws tw tg f2 (nI k2) atp rf rp pS pF pT pL op it isz wh dn wk me 1 ot) := by
  have h16 := hm.n16
  refine Con.ent ok_Mo_tellAtom (by decide +kernel) rfl ?_
  intro pA eA sA mA argsA belowA methA cA GA μA
  refine aw_go 2 2 [some (.ref 0), some (.int (nI o)), none, none] [.int (nI o), .ref 0] (moH lf rt nx sz hg nu hd (nI n) nm le (nI ns) pl wa tx ts ou os wd ws tw tg o1 (nI k) atp rf rp pS pF pT pL op it isz wh dn wk me 1 ot) rfl ?_
  refine aw_cV [0, 1, 2, 3, 4, 5, 6, 7, 8, 9, 10, 11, 12, 13, 14, 15, 16, 17, 18, 19, 20, 21, 22, 23, 24] (c_Mo_isSymbol_1 l lf rt nx sz hg nu hd (nI n) nm le (nI ns) pl wa tx ts ou os wd ws tw tg o1 (nI k) atp rf rp pS pF pT pL op it isz wh dn wk me 1 ot o (by omega) hlf) rfl cw_Mo_209 rfl rfl rfl rfl rfl rfl (Nat.le_refl _) (Nat.le_refl _) (fun r h' hp => ?_)
  obtain ⟨rfl, rfl⟩ := hp
  refine aw_go 0 5 [some (.ref 0), some (.int (nI o)), none, none] [.int 0] (moH lf rt nx sz hg nu hd (nI n) nm le (nI ns) pl wa tx ts ou os wd ws tw tg o1 (nI k) atp rf rp pS pF pT pL op it isz wh dn wk me 1 ot) rfl ?_
  refine aw_if_eq rfl (fun h5 => ?_) (fun h5 => absurd h5 (by decide))
  refine aw_go 2 54 [some (.ref 0), some (.int (nI o)), some (.long 1), none] [] (moH lf rt nx sz hg nu hd (nI n) nm le (nI ns) pl wa tx ts ou os wd ws tw tg o1 (nI k) atp rf rp pS pF pT pL op it isz wh dn wk me 1 ot) rfl ?_
  refine aw_loop (σ := Nat) (fun y => y ≤ 18 ∧ 10 ^ y ≤ max v 1 ∧ tl_K 10 v (18 - y) (y + 1) = (tl_K 10 v 18 1)) (fun y => 18 - y) (fun y => [some (.ref 0), some (.int (nI o)), some (.long (lN (10 ^ y))), none]) (fun _ => []) (fun _ => moH lf rt nx sz hg nu hd (nI n) nm le (nI ns) pl wa tx ts ou os wd ws tw tg o1 (nI k) atp rf rp pS pF pT pL op it isz wh dn wk me 1 ot) ?_ 0 ⟨Nat.zero_le _, by rw [Nat.pow_zero]; omega, rfl⟩
  rintro q ⟨hq, hp, hI⟩ ih
  have hpp : 0 < 10 ^ q := Nat.pow_pos (by omega)
  refine aw_go 3 59 [some (.ref 0), some (.int (nI o)), some (.long (lN (10 ^ q))), none] [.int (nI o), .ref 6] (moH lf rt nx sz hg nu hd (nI n) nm le (nI ns) pl wa tx ts ou os wd ws tw tg o1 (nI k) atp rf rp pS pF pT pL op it isz wh dn wk me 1 ot) rfl ?_
  refine aw_laldN rfl rfl ⟨by omega, by omega⟩ ?_
  rw [hnu]
  refine aw_go 1 61 [some (.ref 0), some (.int (nI o)), some (.long (lN (10 ^ q))), none] [.long (lN (10 ^ q)), .long (lN v)] (moH lf rt nx sz hg nu hd (nI n) nm le (nI ns) pl wa tx ts ou os wd ws tw tg o1 (nI k) atp rf rp pS pF pT pL op it isz wh dn wk me 1 ot) rfl ?_
  refine aw_ldiv rfl (fun z => by have := (pk_lEQ (a := 10 ^ q) (b := 0) (by omega) (by omega)).mp z; omega) ?_
  rw [show lN v / lN (10 ^ q) = lN (v / 10 ^ q) from pk_lDiv (by omega) hpp (by omega)]
  have hdv := Nat.div_le_self v (10 ^ q)
  refine aw_go 2 66 [some (.ref 0), some (.int (nI o)), some (.long (lN (10 ^ q))), none] [.int (lg_cmp (lN (v / 10 ^ q)) 10)] (moH lf rt nx sz hg nu hd (nI n) nm le (nI ns) pl wa tx ts ou os wd ws tw tg o1 (nI k) atp rf rp pS pF pT pL op it isz wh dn wk me 1 ot) rfl ?_
  refine aw_if_lt rfl (fun h66 => ?_) (fun h66 => ?_)
  · -- LOOP 78: [some (.ref 0), some (.int (nI o)), some (.long (lN (10 ^ q))), none] [] (moH lf rt nx sz hg nu hd (nI n) nm le (nI ns) pl wa tx ts ou os wd ws tw tg o1 (nI k) atp rf rp pS pF pT pL op it isz wh dn wk me 1 ot)
    have hKq : (tl_K 10 v 18 1) = q + 1 := (by rw [← hI]; exact tl_K_stop (fun z => by have h8 := (lc_lt (b := 10) (by omega) (by omega)).mp h66; rw [Nat.pow_succ, Nat.mul_comm] at z; have := (Nat.le_div_iff_mul_le hpp).mpr z; omega))
    rw [show 10 ^ q = un 10 (tl_K 10 v 18 1) from (by rw [hKq]; rfl)]
    refine aw_loop (σ := Nat × am_H) (fun y => ∃ (k' : Nat) (f' : Nat → Int32) (acc' : List Nat), y.1 ≤ (tl_K 10 v 18 1) ∧ sh_R 200 k' f' acc' ∧ acc' ++ (dl 10 y.1 v).map (am_ch 1) = acc ++ (dl 10 (tl_K 10 v 18 1) v).map (am_ch 1) ∧ y.2 = moH lf rt nx sz hg nu hd (nI n) nm le (nI ns) pl wa tx ts ou os wd ws tw tg f' (nI k') atp rf rp pS pF pT pL op it isz wh dn wk me 1 ot) (fun y => y.1) (fun y => [some (.ref 0), some (.int (nI o)), some (.long (lN (un 10 y.1))), none]) (fun _ => []) (fun y => y.2) ?_ ((tl_K 10 v 18 1), moH lf rt nx sz hg nu hd (nI n) nm le (nI ns) pl wa tx ts ou os wd ws tw tg o1 (nI k) atp rf rp pS pF pT pL op it isz wh dn wk me 1 ot) ⟨k, o1, acc, Nat.le_refl _, hR, rfl, rfl⟩
    rintro ⟨q, hh⟩ ⟨k', f', acc', hq, hR', hI, he⟩ ih2
    dsimp only at hq hR' hI he ih2 ⊢
    subst he
    refine aw_go 3 81 [some (.ref 0), some (.int (nI o)), some (.long (lN (un 10 q))), none] [.int (lg_cmp (lN (un 10 q)) 0)] (moH lf rt nx sz hg nu hd (nI n) nm le (nI ns) pl wa tx ts ou os wd ws tw tg f' (nI k') atp rf rp pS pF pT pL op it isz wh dn wk me 1 ot) rfl ?_
    refine aw_if_le rfl (fun h81 => ?_) (fun h81 => ?_)
    · have hq0 : q = 0 := un_0 (b := 10) (by omega) (lt_of_le2 (tl_K_le2 (b := 10) (v := v) (q := 18) (k := 1) hq rfl) hv) h81
      exact aw_vret rfl rfl ⟨rfl, k', f', by rw [← hI, hq0, show (dl 10 0 v).map (am_ch 1) = [] from rfl, List.append_nil]; exact hR', rfl⟩ rfl (Nat.le_refl _) (Nat.le_refl _) -- [] (moH lf rt nx sz hg nu hd (nI n) nm le (nI ns) pl wa tx ts ou os wd ws tw tg f' (nI k') atp rf rp pS pF pT pL op it isz wh dn wk me 1 ot)
    · obtain ⟨q1, rfl⟩ : ∃ z, q = z + 1 := ⟨q - 1, by have h9 : q ≠ 0 := (fun z => h81 (by rw [z]; decide)); omega⟩
      rw [show un 10 (q1 + 1) = 10 ^ q1 from rfl]
      have hpw := tl_K_le (b := 10) (v := v) (j := q1) (q := 18) (k := 1) (by omega) (by omega)
      have hpp : 0 < 10 ^ q1 := Nat.pow_pos (by omega)
      have hd10 := Nat.mod_lt (v / 10 ^ q1) (show 10 > 0 by omega)
      refine aw_go 5 92 [some (.ref 0), some (.int (nI o)), some (.long (lN (10 ^ q1))), none] [.int (nI o), .ref 6, .int 48, .ref 0] (moH lf rt nx sz hg nu hd (nI n) nm le (nI ns) pl wa tx ts ou os wd ws tw tg f' (nI k') atp rf rp pS pF pT pL op it isz wh dn wk me 1 ot) rfl ?_
      refine aw_laldN rfl rfl ⟨by omega, by omega⟩ ?_
      rw [hnu]
      refine aw_go 1 94 [some (.ref 0), some (.int (nI o)), some (.long (lN (10 ^ q1))), none] [.long (lN (10 ^ q1)), .long (lN v), .int 48, .ref 0] (moH lf rt nx sz hg nu hd (nI n) nm le (nI ns) pl wa tx ts ou os wd ws tw tg f' (nI k') atp rf rp pS pF pT pL op it isz wh dn wk me 1 ot) rfl ?_
      refine aw_ldiv rfl (fun z => by have := (pk_lEQ (a := 10 ^ q1) (b := 0) (by omega) (by omega)).mp z; omega) ?_
      rw [show lN v / lN (10 ^ q1) = lN (v / 10 ^ q1) from pk_lDiv (by omega) hpp (by omega)]
      refine aw_go 1 98 [some (.ref 0), some (.int (nI o)), some (.long (lN (10 ^ q1))), none] [.long 10, .long (lN (v / 10 ^ q1)), .int 48, .ref 0] (moH lf rt nx sz hg nu hd (nI n) nm le (nI ns) pl wa tx ts ou os wd ws tw tg f' (nI k') atp rf rp pS pF pT pL op it isz wh dn wk me 1 ot) rfl ?_
      refine aw_lrem rfl (by decide) ?_
      rw [show lN (v / 10 ^ q1) - lN (v / 10 ^ q1) / 10 * 10 = lN (v / 10 ^ q1 % 10) from pk_lRem (b := 10) (by have := Nat.div_le_self v (10 ^ q1); omega) (by omega) (by omega)]
      refine aw_go 2 101 [some (.ref 0), some (.int (nI o)), some (.long (lN (10 ^ q1))), none] [.int (48 + (Int64.toInt32 (lN (v / 10 ^ q1 % 10)))), .ref 0] (moH lf rt nx sz hg nu hd (nI n) nm le (nI ns) pl wa tx ts ou os wd ws tw tg f' (nI k') atp rf rp pS pF pT pL op it isz wh dn wk me 1 ot) rfl ?_
      rw [show (48 : Int32) + Int64.toInt32 (lN (v / 10 ^ q1 % 10)) = nI (am_ch 1 (v / 10 ^ q1 % 10)) from (by rw [lN_i, am_ch1 _ hd10]; exact nI_add 48 _)]
      refine aw_cV [0, 1, 2, 3, 4, 5, 6, 7, 8, 9, 10, 11, 12, 13, 14, 15, 16, 17, 18, 19, 20, 21, 22, 23, 24] (c_Mo_tellLetter_s l lf rt nx sz hg nu hd (nI n) nm le (nI ns) pl wa tx ts ou os wd ws tw tg f' atp rf rp pS pF pT pL op it isz wh dn wk me ot k' (acc') hR' (am_ch 1 (v / 10 ^ q1 % 10))) rfl cw_Mo_212 rfl rfl rfl rfl rfl rfl (Nat.le_refl _) (Nat.le_refl _) (fun r h' hp => ?_)
      obtain ⟨rfl, k_101_1, f_101_1, hR_101_1, rfl⟩ := hp
      refine aw_go 2 108 [some (.ref 0), some (.int (nI o)), some (.long (lN (10 ^ q1))), none] [.long 10, .long (lN (10 ^ q1))] (moH lf rt nx sz hg nu hd (nI n) nm le (nI ns) pl wa tx ts ou os wd ws tw tg f_101_1 (nI k_101_1) atp rf rp pS pF pT pL op it isz wh dn wk me 1 ot) rfl ?_
      refine aw_ldiv rfl (by decide) ?_
      rw [show lN (10 ^ q1) / 10 = lN (un 10 q1) from (by rw [← un_div (by omega : 2 ≤ 10)]; exact pk_lDiv (b := 10) (by omega) (by omega) (by omega))]
      refine aw_go 2 78 [some (.ref 0), some (.int (nI o)), some (.long (lN (un 10 q1))), none] [] (moH lf rt nx sz hg nu hd (nI n) nm le (nI ns) pl wa tx ts ou os wd ws tw tg f_101_1 (nI k_101_1) atp rf rp pS pF pT pL op it isz wh dn wk me 1 ot) rfl ?_
      -- LOOP 78: [some (.ref 0), some (.int (nI o)), some (.long (lN (un 10 q1))), none] [] (moH lf rt nx sz hg nu hd (nI n) nm le (nI ns) pl wa tx ts ou os wd ws tw tg f_101_1 (nI k_101_1) atp rf rp pS pF pT pL op it isz wh dn wk me 1 ot)
      exact aw_eq rfl rfl rfl (ih2 (q1, _) ⟨k_101_1, f_101_1, _, by show q1 ≤ _; omega, hR_101_1, by show _ ++ _ ++ _ = _; rw [← hI, List.append_assoc]; rfl, rfl⟩ (by show q1 < q1 + 1; omega))
  · have hle : 10 ^ (q + 1) ≤ v := (by have h8 : ¬ v / 10 ^ q < 10 := (fun z => h66 ((lc_lt (b := 10) (by omega) (by omega)).mpr z)); rw [Nat.pow_succ, Nat.mul_comm]; exact (Nat.le_div_iff_mul_le hpp).mp (by omega))
    have hq18 : q < 18 := Nat.not_le.mp fun z => by have : 10 ^ 19 ≤ 10 ^ (q + 1) := Nat.pow_le_pow_right (by omega) (by omega); omega
    refine aw_go 3 74 [some (.ref 0), some (.int (nI o)), some (.long (lN (10 ^ q))), none] [.long (10 * (lN (10 ^ q)))] (moH lf rt nx sz hg nu hd (nI n) nm le (nI ns) pl wa tx ts ou os wd ws tw tg o1 (nI k) atp rf rp pS pF pT pL op it isz wh dn wk me 1 ot) rfl ?_
    rw [show 10 * lN (10 ^ q) = lN (10 ^ (q + 1)) from (by rw [show (10 : Int64) = lN 10 from rfl, lN_mul, Nat.pow_succ, Nat.mul_comm])]
    refine aw_go 2 54 [some (.ref 0), some (.int (nI o)), some (.long (lN (10 ^ (q + 1)))), none] [] (moH lf rt nx sz hg nu hd (nI n) nm le (nI ns) pl wa tx ts ou os wd ws tw tg o1 (nI k) atp rf rp pS pF pT pL op it isz wh dn wk me 1 ot) rfl ?_
    -- LOOP 54: [some (.ref 0), some (.int (nI o)), some (.long (lN (10 ^ (q + 1)))), none] [] (moH lf rt nx sz hg nu hd (nI n) nm le (nI ns) pl wa tx ts ou os wd ws tw tg o1 (nI k) atp rf rp pS pF pT pL op it isz wh dn wk me 1 ot)
    exact aw_eq rfl rfl rfl (ih (q + 1) ⟨by omega, by omega, by rw [← hI, tl_K_go hq18 hle]⟩ (by omega))
theorem c_Mo_tellAtom_s (l : Launch) (lf rt nx sz hg : Nat → Int32) (nu : Nat → Int64) (hd nm le pl wa tx : Nat → Int32) (ts : Int32) (ou : Nat → Int32) (os : Int32) (wd : Nat → Int32) (ws : Int32) (tw : Nat → Int32) (tg : Int32) (o1 : Nat → Int32) (atp rf rp : Int32) (pS pF pT pL : Nat → Int32) (op : Int32) (it : Nat → Int32) (isz wh dn : Int32) (wk me ot : Nat → Int32) (n ns : Nat) (t : Nat → Tr) (hm : mo_tb n ns lf rt nx hg nu hd nm le t) (k : Nat) (acc : List Nat) (hR : sh_R 200 k o1 acc) (o : Nat) (ho : o < n) (c : Nat) (hT : t o = .var c) : Con l y_Mo_tellAtom M_Mo_tellAtom 1 21 [.ref 0, .int (nI o)] (moH lf rt nx sz hg nu hd (nI n) nm le (nI ns) pl wa tx ts ou os wd ws tw tg o1 (nI k) atp rf rp pS pF pT pL op it isz wh dn wk me 1 ot) 25 0 0 0 (fun r h' => r = none ∧ ∃ k2 f2, sh_R 200 k2 f2 (acc ++ tl_at c) ∧ h' = moH lf rt nx sz hg nu hd (nI n) nm le (nI ns) pl wa tx ts ou os wd ws tw tg f2 (nI k2) atp rf rp pS pF pT pL op it isz wh dn wk me 1 ot) := by
  have h16 := hm.n16
  rcases hm.at ho hT with ⟨hlf, v, hv, hnu, rfl⟩ | ⟨hlf, s, w, hs, hrt, hsy, rfl⟩
  · have e : tl_at (2 * v) = (dl 10 (tl_K 10 v 18 1) v).map (am_ch 1) := by
      unfold tl_at
      rw [if_pos (by omega), show 2 * v / 2 = v by omega]
    rw [e]
    exact c_Mo_tellAtom_s_n l lf rt nx sz hg nu hd nm le pl wa tx ts ou os wd ws tw tg o1 atp rf rp pS pF pT pL op it isz wh dn wk me ot n ns t hm k acc hR o ho v hv hlf hnu
  · rw [wt hsy.1]
    exact c_Mo_tellAtom_s_s l lf rt nx sz hg nu hd nm le pl wa tx ts ou os wd ws tw tg o1 atp rf rp pS pF pT pL op it isz wh dn wk me ot n ns t hm k acc hR o ho s (by omega) w hlf hrt hsy
