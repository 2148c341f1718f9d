/-! the model: lengthOf, different -/
theorem nI_dec (k : Nat) : nI (k + 1) + (-1) = nI k := by
  rw [nI_succ, Int32.add_assoc, show (1 : Int32) + (-1) = 0 from by decide, Int32.add_zero]
def wk_R (wk : Nat → Int32) : List Nat → Prop
  | [] => True
  | x :: r => wk r.length = nI x ∧ wk_R wk r
theorem wk_R.keep {wk : Nat → Int32} {k : Nat} {y : Int32} : ∀ (W : List Nat), W.length ≤ k → wk_R wk W → wk_R (upd wk k y) W := by
  intro W
  induction W with
  | nil => intro _ _; trivial
  | cons x r ih =>
    intro hl h
    rw [List.length_cons] at hl
    exact ⟨by rw [pk_un (by omega)]; exact h.1, ih (by omega) h.2⟩
/-- the objects that were met: those still to be looked at, those that were looked at -/
def md_R (n : Nat) (me wk : Nat → Int32) (W D : List Nat) : Prop := (W ++ D).Nodup ∧ (∀ x ∈ W ++ D, x < n) ∧ (∀ i, i < n → (i ∈ W ++ D → me i = 1) ∧ (i ∉ W ++ D → me i = 0)) ∧ wk_R wk W
theorem md_R.le {n : Nat} {me wk : Nat → Int32} {W D : List Nat} (h : md_R n me wk W D) : (W ++ D).length ≤ n := nd_lt h.1 h.2.1
theorem md_mv {x y : Nat} {r D : List Nat} : y ∈ r ++ x :: D ↔ y ∈ x :: r ++ D := by
  simp only [List.cons_append, List.mem_append, List.mem_cons]
  constructor
  · rintro (h | h | h)
    · exact Or.inr (Or.inl h)
    · exact Or.inl h
    · exact Or.inr (Or.inr h)
  · rintro (h | h | h)
    · exact Or.inr (Or.inl h)
    · exact Or.inl h
    · exact Or.inr (Or.inr h)
theorem md_R.pop {n : Nat} {me wk : Nat → Int32} {x : Nat} {r D : List Nat} (h : md_R n me wk (x :: r) D) : md_R n me wk r (x :: D) := by
  obtain ⟨h1, h2, h3, h4⟩ := h
  refine ⟨(List.perm_middle.nodup_iff).mpr h1, fun y hy => h2 y (md_mv.mp hy), fun i hi => ⟨fun z => (h3 i hi).1 (md_mv.mp z), fun z => (h3 i hi).2 (fun y => z (md_mv.mpr y))⟩, h4.2⟩
theorem md_R.push {n : Nat} {me wk : Nat → Int32} {W D : List Nat} (h : md_R n me wk W D) {i : Nat} (hi : i < n) (hni : i ∉ W ++ D) : md_R n (upd me i 1) (upd wk W.length (nI i)) (i :: W) D := by
  obtain ⟨h1, h2, h3, h4⟩ := h
  refine ⟨List.nodup_cons.mpr ⟨hni, h1⟩, fun y hy => ?_, fun j hj => ?_, ⟨pk_us, h4.keep W (Nat.le_refl _)⟩⟩
  · rcases List.mem_cons.mp hy with z | z
    · omega
    · exact h2 y z
  · by_cases e : j = i
    · subst e
      rw [pk_us]
      exact ⟨fun _ => rfl, fun z => absurd List.mem_cons_self z⟩
    · rw [pk_un e]
      refine ⟨fun z => ?_, fun z => (h3 j hj).2 (fun y => z (List.mem_cons_of_mem _ y))⟩
      rcases List.mem_cons.mp z with y | y
      · exact absurd y e
      · exact (h3 j hj).1 y
def md_I (t : Nat → Tr) (o : Nat) (b : Bool) (c : Nat) (W D : List Nat) : Prop := o ∈ W ++ D ∧ (∀ x ∈ W ++ D, t x ∈ tr_sub (t o)) ∧ (∀ x ∈ D, ∀ A B, t x = .op A B → (∃ a ∈ W ++ D, t a = A) ∧ (∃ a ∈ W ++ D, t a = B)) ∧ c = (D.filter (fun x => tr_isp (t x) == b)).length
theorem md_0 {n o : Nat} {me wk : Nat → Int32} (ho : o < n) (h : ∀ i, i < n → me i = 0) : md_R n (upd me o 1) (upd wk 0 (nI o)) [o] [] := by
  refine ⟨by simp, fun x hx => ?_, fun i hi => ?_, ⟨pk_us, trivial⟩⟩
  · simp at hx; omega
  · by_cases e : i = o
    · subst e
      rw [pk_us]
      exact ⟨fun _ => rfl, fun z => absurd (by simp) z⟩
    · rw [pk_un e]
      exact ⟨fun z => by simp at z; exact absurd z e, fun _ => h i hi⟩
theorem md_I0 {t : Nat → Tr} {o : Nat} {b : Bool} : md_I t o b 0 [o] [] := ⟨by simp, fun x hx => by simp at hx; rw [hx]; exact tr_sub_self _, (fun x hx => nomatch hx), rfl⟩
theorem md_I.step {t : Nat → Tr} {o : Nat} {b : Bool} {c c2 : Nat} {x : Nat} {r D W2 : List Nat} (h : md_I t o b c (x :: r) D) (hc : c2 = (if tr_isp (t x) == b then c + 1 else c)) (h1 : ∀ y, y ∈ x :: r ++ D → y ∈ W2 ++ x :: D) (h2 : ∀ y, y ∈ W2 ++ x :: D → y ∈ x :: r ++ D ∨ t y ∈ tr_sub (t o)) (h3 : ∀ A B, t x = .op A B → (∃ a ∈ W2 ++ x :: D, t a = A) ∧ (∃ a ∈ W2 ++ x :: D, t a = B)) : md_I t o b c2 W2 (x :: D) := by
  obtain ⟨g1, g2, g3, g4⟩ := h
  refine ⟨h1 o g1, fun y hy => ?_, fun y hy A B hT => ?_, ?_⟩
  · rcases h2 y hy with z | z
    · exact g2 y z
    · exact z
  · rcases List.mem_cons.mp hy with z | z
    · rw [z] at hT; exact h3 A B hT
    · obtain ⟨⟨a, a1, a2⟩, a', b1, b2⟩ := g3 y z A B hT
      exact ⟨⟨a, h1 a a1, a2⟩, a', h1 a' b1, b2⟩
  · rw [hc, List.filter_cons]
    split
    · rw [List.length_cons, g4]
    · exact g4
theorem md_fin {n ns : Nat} {lf rt nx hg : Nat → Int32} {nu : Nat → Int64} {hd nm le : Nat → Int32} {t : Nat → Tr} (hm : mo_tb n ns lf rt nx hg nu hd nm le t) {me wk : Nat → Int32} {D : List Nat} {o c : Nat} {b : Bool} (hM : md_R n me wk [] D) (hI : md_I t o b c [] D) : cnt_R (t o) b c := by
  obtain ⟨g1, g2, g3, g4⟩ := hI
  obtain ⟨h1, h2, -, -⟩ := hM
  rw [List.nil_append] at g1 g2 g3 h1 h2
  refine ⟨(D.filter (fun x => tr_isp (t x) == b)).map t, ?_, fun T2 => ?_, by rw [List.length_map]; exact g4⟩
  · unfold List.Nodup
    rw [List.pairwise_map]
    refine List.Pairwise.imp_of_mem ?_ (List.Pairwise.filter _ h1)
    intro a a2 ha ha2 hne e
    exact hne (hm.inj (h2 a (List.mem_filter.mp ha).1) (h2 a2 (List.mem_filter.mp ha2).1) e)
  · have hall : ∀ T3 ∈ tr_sub (t o), ∃ x ∈ D, t x = T3 := by
      refine tr_sub_all (P := fun T3 => ∃ x ∈ D, t x = T3) ?_ (t o) ⟨o, g1, rfl⟩
      rintro A B ⟨x, hx, hxt⟩
      exact g3 x hx A B hxt
    constructor
    · intro hT
      obtain ⟨x, hx, rfl⟩ := List.mem_map.mp hT
      obtain ⟨q1, q2⟩ := List.mem_filter.mp hx
      exact ⟨g2 x q1, by simpa using q2⟩
    · rintro ⟨q1, q2⟩
      obtain ⟨x, hx, rfl⟩ := hall T2 q1
      exact List.mem_map.mpr ⟨x, List.mem_filter.mpr ⟨hx, by simpa using q2⟩, rfl⟩
set_option maxHeartbeats 2000000 in
set_option maxRecDepth 100000 in
theorem c_Mo_lengthOf (l : Launch) (lf rt nx sz hg : Nat → Int32) (nu : Nat → Int64) (hd nm le pl wa tx : Nat → Int32) (ts : Int32) (ou : Nat → Int32) (os : Int32) (wd : Nat → Int32) (ws : Int32) (tw : Nat → Int32) (tg : Int32) (o1 : Nat → Int32) (s1 atp rf rp : Int32) (pS pF pT pL : Nat → Int32) (op : Int32) (it : Nat → Int32) (isz wh dn : Int32) (wk me : Nat → Int32) (sh : Int32) (ot : Nat → Int32) (n ns : Nat) (t : Nat → Tr) (hm : mo_tb n ns lf rt nx hg nu hd nm le t) (o : Nat) (ho : o < n) (h01 : 2 ≤ n ∧ t 0 = tr_nil ∧ t 1 = tr_quote) : Con l y_Mo_lengthOf M_Mo_lengthOf 1 21 [.ref 0, .int (nI o)] (moH lf rt nx sz hg nu hd (nI n) nm le (nI ns) pl wa tx ts ou os wd ws tw tg o1 s1 atp rf rp pS pF pT pL op it isz wh dn wk me sh ot) 25 0 0 0 (fun r h' => r = some (.int (oI (tr_len (t o)))) ∧ h' = moH lf rt nx sz hg nu hd (nI n) nm le (nI ns) pl wa tx ts ou os wd ws tw tg o1 s1 atp rf rp pS pF pT pL op it isz wh dn wk me sh ot) := by
  have h16n := hm.n16
  refine Con.ent ok_Mo_lengthOf (by decide +kernel) rfl ?_
  intro pA eA sA mA argsA belowA methA cA GA μA
  refine aw_go 4 4 [some (.ref 0), some (.int (nI o)), some (.int 0), some (.int (nI o))] [] (moH lf rt nx sz hg nu hd (nI n) nm le (nI ns) pl wa tx ts ou os wd ws tw tg o1 s1 atp rf rp pS pF pT pL op it isz wh dn wk me sh ot) rfl ?_
  refine aw_loop (σ := Nat × Nat) (fun y => y.2 < n ∧ tr_len (t o) = (tr_len (t y.2)).map (· + y.1)) (fun y => y.2) (fun y => [some (.ref 0), some (.int (nI o)), some (.int (nI y.1)), some (.int (nI y.2))]) (fun _ => []) (fun _ => moH lf rt nx sz hg nu hd (nI n) nm le (nI ns) pl wa tx ts ou os wd ws tw tg o1 s1 atp rf rp pS pF pT pL op it isz wh dn wk me sh ot) ?_ (0, o) ⟨ho, by cases tr_len (t o) <;> rfl⟩
  rintro ⟨m, j⟩ ⟨hj, hI⟩ ih
  dsimp only at hj hI ih ⊢
  refine aw_go 2 6 [some (.ref 0), some (.int (nI o)), some (.int (nI m)), some (.int (nI j))] [.int (nI j), .ref 0] (moH lf rt nx sz hg nu hd (nI n) nm le (nI ns) pl wa tx ts ou os wd ws tw tg o1 s1 atp rf rp pS pF pT pL op it isz wh dn wk me sh ot) rfl ?_
  refine aw_cV [0, 1, 2, 3, 4, 5, 6, 7, 8, 9, 10, 11, 12, 13, 14, 15, 16, 17, 18, 19, 20, 21, 22, 23, 24] (c_Mo_isPairD l lf rt nx sz hg nu hd nm le pl wa tx ts ou os wd ws tw tg o1 s1 atp rf rp pS pF pT pL op it isz wh dn wk me sh ot n ns t hm j hj) rfl cw_Mo_215 rfl rfl rfl rfl rfl rfl (Nat.le_refl _) (Nat.le_refl _) (fun r h' hp => ?_)
  rcases hp with ⟨⟨c, hT⟩, rfl, rfl⟩ | ⟨⟨A, B, hT⟩, rfl, rfl⟩
  · refine aw_go 0 9 [some (.ref 0), some (.int (nI o)), some (.int (nI m)), some (.int (nI j))] [.int 0] (moH lf rt nx sz hg nu hd (nI n) nm le (nI ns) pl wa tx ts ou os wd ws tw tg o1 s1 atp rf rp pS pF pT pL op it isz wh dn wk me sh ot) rfl ?_
    refine aw_if_eq rfl (fun h9 => ?_) (fun h9 => absurd h9 (by decide))
    refine aw_go 1 26 [some (.ref 0), some (.int (nI o)), some (.int (nI m)), some (.int (nI j))] [.int (nI j)] (moH lf rt nx sz hg nu hd (nI n) nm le (nI ns) pl wa tx ts ou os wd ws tw tg o1 s1 atp rf rp pS pF pT pL op it isz wh dn wk me sh ot) rfl ?_
    refine aw_if_ne rfl (fun h26 => ?_) (fun h26 => ?_)
    · refine aw_go 1 34 [some (.ref 0), some (.int (nI o)), some (.int (nI m)), some (.int (nI j))] [.int (-1)] (moH lf rt nx sz hg nu hd (nI n) nm le (nI ns) pl wa tx ts ou os wd ws tw tg o1 s1 atp rf rp pS pF pT pL op it isz wh dn wk me sh ot) rfl ?_
      exact aw_iret rfl rfl rfl ⟨by rw [hI, hT, show tr_len (.var c) = none from if_neg (fun z => h26 (by rw [hm.inj hj (show 0 < n by omega) (by rw [hT, h01.2.1, z]; rfl)]; rfl))]; rfl, rfl⟩ rfl (Nat.le_refl _) (Nat.le_refl _) -- [.int (-1)] (moH lf rt nx sz hg nu hd (nI n) nm le (nI ns) pl wa tx ts ou os wd ws tw tg o1 s1 atp rf rp pS pF pT pL op it isz wh dn wk me sh ot)
    · refine aw_go 2 34 [some (.ref 0), some (.int (nI o)), some (.int (nI m)), some (.int (nI j))] [.int (nI m)] (moH lf rt nx sz hg nu hd (nI n) nm le (nI ns) pl wa tx ts ou os wd ws tw tg o1 s1 atp rf rp pS pF pT pL op it isz wh dn wk me sh ot) rfl ?_
      exact aw_iret rfl rfl rfl ⟨by rw [hI, nI_inj (b := 0) (by omega) (by omega) h26, h01.2.1, show tr_len tr_nil = some 0 from if_pos rfl]; simp only [Option.map_some, Nat.zero_add]; rfl, rfl⟩ rfl (Nat.le_refl _) (Nat.le_refl _) -- [.int (nI m)] (moH lf rt nx sz hg nu hd (nI n) nm le (nI ns) pl wa tx ts ou os wd ws tw tg o1 s1 atp rf rp pS pF pT pL op it isz wh dn wk me sh ot)
  · refine aw_go 0 9 [some (.ref 0), some (.int (nI o)), some (.int (nI m)), some (.int (nI j))] [.int 1] (moH lf rt nx sz hg nu hd (nI n) nm le (nI ns) pl wa tx ts ou os wd ws tw tg o1 s1 atp rf rp pS pF pT pL op it isz wh dn wk me sh ot) rfl ?_
    refine aw_if_eq rfl (fun h9 => absurd h9 (by decide)) (fun h9 => ?_)
    refine aw_go 1 15 [some (.ref 0), some (.int (nI o)), some (.int ((nI m) + 1)), some (.int (nI j))] [] (moH lf rt nx sz hg nu hd (nI n) nm le (nI ns) pl wa tx ts ou os wd ws tw tg o1 s1 atp rf rp pS pF pT pL op it isz wh dn wk me sh ot) rfl ?_
    obtain ⟨a1, b1, ha1, hb1, hlf1, hrt1, hta1, htb1⟩ := hm.pr hj hT
    refine aw_go 3 20 [some (.ref 0), some (.int (nI o)), some (.int ((nI m) + 1)), some (.int (nI j))] [.int (nI j), .ref 2] (moH lf rt nx sz hg nu hd (nI n) nm le (nI ns) pl wa tx ts ou os wd ws tw tg o1 s1 atp rf rp pS pF pT pL op it isz wh dn wk me sh ot) rfl ?_
    refine aw_ialdN rfl rfl ⟨by omega, by omega⟩ ?_
    rw [hrt1]
    refine aw_go 2 4 [some (.ref 0), some (.int (nI o)), some (.int ((nI m) + 1)), some (.int (nI b1))] [] (moH lf rt nx sz hg nu hd (nI n) nm le (nI ns) pl wa tx ts ou os wd ws tw tg o1 s1 atp rf rp pS pF pT pL op it isz wh dn wk me sh ot) rfl ?_
    -- LOOP 4: [some (.ref 0), some (.int (nI o)), some (.int ((nI m) + 1)), some (.int (nI b1))] [] (moH lf rt nx sz hg nu hd (nI n) nm le (nI ns) pl wa tx ts ou os wd ws tw tg o1 s1 atp rf rp pS pF pT pL op it isz wh dn wk me sh ot)
    exact aw_eq (by simp only [nI_succ]) rfl rfl (ih (m + 1, b1) ⟨by show b1 < n; omega, by dsimp only; rw [hI, hT, ← htb1]; simp only [tr_len, Option.map_map]; congr 1; funext z; simp only [Function.comp]; omega⟩ (by show b1 < j; omega))
set_option maxHeartbeats 2000000 in
set_option maxRecDepth 100000 in
theorem c_Mo_different (l : Launch) (lf rt nx sz hg : Nat → Int32) (nu : Nat → Int64) (hd nm le pl wa tx : Nat → Int32) (ts : Int32) (ou : Nat → Int32) (os : Int32) (wd : Nat → Int32) (ws : Int32) (tw : Nat → Int32) (tg : Int32) (o1 : Nat → Int32) (s1 atp rf rp : Int32) (pS pF pT pL : Nat → Int32) (op : Int32) (it : Nat → Int32) (isz wh dn : Int32) (wk me : Nat → Int32) (sh : Int32) (ot : Nat → Int32) (n ns : Nat) (t : Nat → Tr) (hm : mo_tb n ns lf rt nx hg nu hd nm le t) (o : Nat) (ho : o < n) (b : Bool) (h01 : 2 ≤ n ∧ t 0 = tr_nil ∧ t 1 = tr_quote) : Con l y_Mo_different M_Mo_different 1 21 [.ref 0, .int (nI o), .int (rb b)] (moH lf rt nx sz hg nu hd (nI n) nm le (nI ns) pl wa tx ts ou os wd ws tw tg o1 s1 atp rf rp pS pF pT pL op it isz wh dn wk me sh ot) 25 0 0 0 (fun r h' => ∃ (me2 wk2 : Nat → Int32) (q : Nat), cnt_R (t o) b q ∧ r = some (.int (nI q)) ∧ h' = moH lf rt nx sz hg nu hd (nI n) nm le (nI ns) pl wa tx ts ou os wd ws tw tg o1 s1 atp rf rp pS pF pT pL op it isz wh dn wk2 me2 sh ot) := by
  have h16n := hm.n16
  refine Con.ent ok_Mo_different (by decide +kernel) rfl ?_
  intro pA eA sA mA argsA belowA methA cA GA μA
  refine aw_go 2 2 [some (.ref 0), some (.int (nI o)), some (.int (rb b)), some (.int 0), none, none] [] (moH lf rt nx sz hg nu hd (nI n) nm le (nI ns) pl wa tx ts ou os wd ws tw tg o1 s1 atp rf rp pS pF pT pL op it isz wh dn wk me sh ot) rfl ?_
  refine aw_loop (σ := Nat × (Nat → Int32)) (fun y => y.1 ≤ n ∧ ∀ i, i < y.1 → y.2 i = 0) (fun y => n - y.1) (fun y => [some (.ref 0), some (.int (nI o)), some (.int (rb b)), some (.int (nI y.1)), none, none]) (fun _ => []) (fun y => moH lf rt nx sz hg nu hd (nI n) nm le (nI ns) pl wa tx ts ou os wd ws tw tg o1 s1 atp rf rp pS pF pT pL op it isz wh dn wk y.2 sh ot) ?_ (0, me) ⟨Nat.zero_le _, fun j hj => absurd hj (Nat.not_lt_zero j)⟩
  rintro ⟨k, me1⟩ ⟨hk, hme⟩ ih
  dsimp only at hk hme ih ⊢
  refine aw_go 3 7 [some (.ref 0), some (.int (nI o)), some (.int (rb b)), some (.int (nI k)), none, none] [.int (nI n), .int (nI k)] (moH lf rt nx sz hg nu hd (nI n) nm le (nI ns) pl wa tx ts ou os wd ws tw tg o1 s1 atp rf rp pS pF pT pL op it isz wh dn wk me1 sh ot) rfl ?_
  refine aw_cmp_ge rfl (fun h7 => ?_) (fun h7 => ?_)
  · have hke : k = n := (by have z := le_n (by omega) (by omega) h7; omega)
    refine aw_go 8 34 [some (.ref 0), some (.int (nI o)), some (.int (rb b)), some (.int 0), some (.int 1), none] [.int (nI o), .int 0, .ref 22] (moH lf rt nx sz hg nu hd (nI n) nm le (nI ns) pl wa tx ts ou os wd ws tw tg o1 s1 atp rf rp pS pF pT pL op it isz wh dn wk me1 sh ot) rfl ?_
    refine aw_iastN (i := 0) rfl rfl (by decide) ?_
    refine aw_go 4 41 [some (.ref 0), some (.int (nI o)), some (.int (rb b)), some (.int 0), some (.int 1), none] [.int 1, .int (nI o), .ref 23] (moH lf rt nx sz hg nu hd (nI n) nm le (nI ns) pl wa tx ts ou os wd ws tw tg o1 s1 atp rf rp pS pF pT pL op it isz wh dn (upd wk 0 (nI o)) me1 sh ot) rfl ?_
    refine aw_zastN rfl rfl ⟨by omega, by omega⟩ ?_
    refine aw_go 0 42 [some (.ref 0), some (.int (nI o)), some (.int (rb b)), some (.int 0), some (.int 1), none] [] (moH lf rt nx sz hg nu hd (nI n) nm le (nI ns) pl wa tx ts ou os wd ws tw tg o1 s1 atp rf rp pS pF pT pL op it isz wh dn (upd wk 0 (nI o)) (upd me1 o (vp_nar .boolean 1)) sh ot) rfl ?_
    -- LOOP 42: [some (.ref 0), some (.int (nI o)), some (.int (rb b)), some (.int 0), some (.int 1), none] [] (moH lf rt nx sz hg nu hd (nI n) nm le (nI ns) pl wa tx ts ou os wd ws tw tg o1 s1 atp rf rp pS pF pT pL op it isz wh dn (upd wk 0 (nI o)) (upd me1 o (vp_nar .boolean 1)) sh ot)
    rw [show vp_nar .boolean 1 = 1 from rfl]
    refine aw_loop (σ := Nat × Nat × Nat × am_H) (fun y => ∃ (W D : List Nat) (me' wk' : Nat → Int32), md_R n me' wk' W D ∧ md_I t o b y.2.1 W D ∧ y.1 = 2 * (n - (W ++ D).length) + W.length ∧ y.2.2.1 = W.length ∧ y.2.2.2 = moH lf rt nx sz hg nu hd (nI n) nm le (nI ns) pl wa tx ts ou os wd ws tw tg o1 s1 atp rf rp pS pF pT pL op it isz wh dn wk' me' sh ot) (fun y => y.1) (fun y => [some (.ref 0), some (.int (nI o)), some (.int (rb b)), some (.int (nI y.2.1)), some (.int (nI y.2.2.1)), none]) (fun _ => []) (fun y => y.2.2.2) ?_ (2 * (n - 1) + 1, 0, 1, moH lf rt nx sz hg nu hd (nI n) nm le (nI ns) pl wa tx ts ou os wd ws tw tg o1 s1 atp rf rp pS pF pT pL op it isz wh dn (upd wk 0 (nI o)) (upd me1 o 1) sh ot) ⟨[o], [], _, _, md_0 ho (fun i hi => hme i (by omega)), md_I0, rfl, rfl, rfl⟩
    rintro ⟨z0, c, z1, hh⟩ ⟨W, D, me', wk', hM, hI, e1, e2, e3⟩ ih2
    dsimp only at hI e1 e2 e3 ih2 ⊢
    subst e1
    subst e2
    subst e3
    have hWn := hM.le
    refine aw_go 1 44 [some (.ref 0), some (.int (nI o)), some (.int (rb b)), some (.int (nI c)), some (.int (nI W.length)), none] [.int (nI W.length)] (moH lf rt nx sz hg nu hd (nI n) nm le (nI ns) pl wa tx ts ou os wd ws tw tg o1 s1 atp rf rp pS pF pT pL op it isz wh dn wk' me' sh ot) rfl ?_
    rcases W with _ | ⟨x, r⟩
    · skip
      refine aw_go 0 44 [some (.ref 0), some (.int (nI o)), some (.int (rb b)), some (.int (nI c)), some (.int 0), none] [.int 0] (moH lf rt nx sz hg nu hd (nI n) nm le (nI ns) pl wa tx ts ou os wd ws tw tg o1 s1 atp rf rp pS pF pT pL op it isz wh dn wk' me' sh ot) rfl ?_
      refine aw_if_le rfl (fun h44 => ?_) (fun h44 => absurd h44 (by decide))
      refine aw_go 1 183 [some (.ref 0), some (.int (nI o)), some (.int (rb b)), some (.int (nI c)), some (.int 0), none] [.int (nI c)] (moH lf rt nx sz hg nu hd (nI n) nm le (nI ns) pl wa tx ts ou os wd ws tw tg o1 s1 atp rf rp pS pF pT pL op it isz wh dn wk' me' sh ot) rfl ?_
      exact aw_iret rfl rfl rfl ⟨_, _, c, md_fin hm hM hI, rfl, rfl⟩ rfl (Nat.le_refl _) (Nat.le_refl _) -- [.int (nI c)] (moH lf rt nx sz hg nu hd (nI n) nm le (nI ns) pl wa tx ts ou os wd ws tw tg o1 s1 atp rf rp pS pF pT pL op it isz wh dn wk' me' sh ot)
    · have hx : x < n := hM.2.1 x (by simp)
      have hP := hM.pop
      have hPn := hP.le
      have hlen : (x :: r ++ D).length = (r ++ x :: D).length := (by simp; omega)
      have hln : r.length + 1 ≤ n := (by simp only [List.cons_append, List.length_cons, List.length_append] at hWn; omega)
      refine aw_go 0 44 [some (.ref 0), some (.int (nI o)), some (.int (rb b)), some (.int (nI c)), some (.int (nI (r.length + 1))), none] [.int (nI (r.length + 1))] (moH lf rt nx sz hg nu hd (nI n) nm le (nI ns) pl wa tx ts ou os wd ws tw tg o1 s1 atp rf rp pS pF pT pL op it isz wh dn wk' me' sh ot) rfl ?_
      refine aw_if_le rfl (fun h44 => absurd (le_n (k := 0) (by omega) (by omega) h44) (by omega)) (fun h44 => ?_)
      refine aw_go 1 50 [some (.ref 0), some (.int (nI o)), some (.int (rb b)), some (.int (nI c)), some (.int ((nI (r.length + 1)) + (-1))), none] [] (moH lf rt nx sz hg nu hd (nI n) nm le (nI ns) pl wa tx ts ou os wd ws tw tg o1 s1 atp rf rp pS pF pT pL op it isz wh dn wk' me' sh ot) rfl ?_
      rw [nI_dec]
      refine aw_go 3 56 [some (.ref 0), some (.int (nI o)), some (.int (rb b)), some (.int (nI c)), some (.int (nI r.length)), none] [.int (nI r.length), .ref 22] (moH lf rt nx sz hg nu hd (nI n) nm le (nI ns) pl wa tx ts ou os wd ws tw tg o1 s1 atp rf rp pS pF pT pL op it isz wh dn wk' me' sh ot) rfl ?_
      refine aw_ialdN rfl rfl ⟨by omega, by omega⟩ ?_
      rw [hM.2.2.2.1]
      refine aw_go 4 63 [some (.ref 0), some (.int (nI o)), some (.int (rb b)), some (.int (nI c)), some (.int (nI r.length)), some (.int (nI x))] [.int (nI x), .ref 0, .int (nI c)] (moH lf rt nx sz hg nu hd (nI n) nm le (nI ns) pl wa tx ts ou os wd ws tw tg o1 s1 atp rf rp pS pF pT pL op it isz wh dn wk' me' sh ot) rfl ?_
      refine aw_cV [0, 1, 2, 3, 4, 5, 6, 7, 8, 9, 10, 11, 12, 13, 14, 15, 16, 17, 18, 19, 20, 21, 22, 23, 24] (c_Mo_isPairD l lf rt nx sz hg nu hd nm le pl wa tx ts ou os wd ws tw tg o1 s1 atp rf rp pS pF pT pL op it isz wh dn wk' me' sh ot n ns t hm x hx) rfl cw_Mo_215 rfl rfl rfl rfl rfl rfl (Nat.le_refl _) (Nat.le_refl _) (fun r h' hp => ?_)
      rcases hp with ⟨⟨d, hT⟩, rfl, rfl⟩ | ⟨⟨A, B, hT⟩, rfl, rfl⟩
      · refine aw_go 1 67 [some (.ref 0), some (.int (nI o)), some (.int (rb b)), some (.int (nI c)), some (.int (nI r.length)), some (.int (nI x))] [.int (rb b), .int 0, .int (nI c)] (moH lf rt nx sz hg nu hd (nI n) nm le (nI ns) pl wa tx ts ou os wd ws tw tg o1 s1 atp rf rp pS pF pT pL op it isz wh dn wk' me' sh ot) rfl ?_
        cases b
        · skip
          refine aw_go 0 67 [some (.ref 0), some (.int (nI o)), some (.int 0), some (.int (nI c)), some (.int (nI r.length)), some (.int (nI x))] [.int 0, .int 0, .int (nI c)] (moH lf rt nx sz hg nu hd (nI n) nm le (nI ns) pl wa tx ts ou os wd ws tw tg o1 s1 atp rf rp pS pF pT pL op it isz wh dn wk' me' sh ot) rfl ?_
          refine aw_cmp_ne rfl (fun h67 => absurd h67 (by decide)) (fun h67 => ?_)
          refine aw_go 6 80 [some (.ref 0), some (.int (nI o)), some (.int 0), some (.int ((nI c) + 1)), some (.int (nI r.length)), some (.int (nI x))] [.int (nI x), .ref 0] (moH lf rt nx sz hg nu hd (nI n) nm le (nI ns) pl wa tx ts ou os wd ws tw tg o1 s1 atp rf rp pS pF pT pL op it isz wh dn wk' me' sh ot) rfl ?_
          refine aw_cV [0, 1, 2, 3, 4, 5, 6, 7, 8, 9, 10, 11, 12, 13, 14, 15, 16, 17, 18, 19, 20, 21, 22, 23, 24] (c_Mo_isPair0 l lf rt nx sz hg nu hd nm le pl wa tx ts ou os wd ws tw tg o1 s1 atp rf rp pS pF pT pL op it isz wh dn wk' me' sh ot n ns t hm x hx d hT) rfl cw_Mo_215 rfl rfl rfl rfl rfl rfl (Nat.le_refl _) (Nat.le_refl _) (fun r h' hp => ?_)
          obtain ⟨rfl, rfl⟩ := hp
          refine aw_go 0 83 [some (.ref 0), some (.int (nI o)), some (.int 0), some (.int ((nI c) + 1)), some (.int (nI r.length)), some (.int (nI x))] [.int 0] (moH lf rt nx sz hg nu hd (nI n) nm le (nI ns) pl wa tx ts ou os wd ws tw tg o1 s1 atp rf rp pS pF pT pL op it isz wh dn wk' me' sh ot) rfl ?_
          refine aw_if_ne rfl (fun h83 => absurd h83 (by decide)) (fun h83 => ?_)
          refine aw_go 1 42 [some (.ref 0), some (.int (nI o)), some (.int 0), some (.int ((nI c) + 1)), some (.int (nI r.length)), some (.int (nI x))] [] (moH lf rt nx sz hg nu hd (nI n) nm le (nI ns) pl wa tx ts ou os wd ws tw tg o1 s1 atp rf rp pS pF pT pL op it isz wh dn wk' me' sh ot) rfl ?_
          -- LOOP 42: [some (.ref 0), some (.int (nI o)), some (.int 0), some (.int ((nI c) + 1)), some (.int (nI r.length)), some (.int (nI x))] [] (moH lf rt nx sz hg nu hd (nI n) nm le (nI ns) pl wa tx ts ou os wd ws tw tg o1 s1 atp rf rp pS pF pT pL op it isz wh dn wk' me' sh ot)
          exact aw_mask [true, true, true, true, true, false] (aw_eq (by simp only [nI_succ, Int32.add_zero, List.length_cons]; rfl) rfl rfl (ih2 (_, c + 1, (r).length, _) ⟨r, x :: D, _, _, hP, hI.step (W2 := r) (by rw [hT]; rfl) (fun y hy => by simp only [List.mem_append, List.mem_cons] at hy ⊢; rcases hy with (hy | hy) | hy <;> simp [hy]) (fun y hy => by simp only [List.mem_append, List.mem_cons] at hy; rcases hy with hy | hy | hy <;> exact Or.inl (by simp [hy])) (fun A2 B2 hT2 => by rw [hT] at hT2; cases hT2), rfl, rfl, rfl⟩ (by show 2 * (n - (r ++ x :: D).length) + (r).length < 2 * (n - (x :: r ++ D).length) + (x :: r).length; have z9 := (hP).le; simp only [List.cons_append, List.length_cons, List.length_append] at z9 hPn ⊢; omega)))
        · skip
          refine aw_go 0 67 [some (.ref 0), some (.int (nI o)), some (.int 1), some (.int (nI c)), some (.int (nI r.length)), some (.int (nI x))] [.int 1, .int 0, .int (nI c)] (moH lf rt nx sz hg nu hd (nI n) nm le (nI ns) pl wa tx ts ou os wd ws tw tg o1 s1 atp rf rp pS pF pT pL op it isz wh dn wk' me' sh ot) rfl ?_
          refine aw_cmp_ne rfl (fun h67 => ?_) (fun h67 => absurd h67 (by decide))
          refine aw_go 5 80 [some (.ref 0), some (.int (nI o)), some (.int 1), some (.int ((nI c) + 0)), some (.int (nI r.length)), some (.int (nI x))] [.int (nI x), .ref 0] (moH lf rt nx sz hg nu hd (nI n) nm le (nI ns) pl wa tx ts ou os wd ws tw tg o1 s1 atp rf rp pS pF pT pL op it isz wh dn wk' me' sh ot) rfl ?_
          refine aw_cV [0, 1, 2, 3, 4, 5, 6, 7, 8, 9, 10, 11, 12, 13, 14, 15, 16, 17, 18, 19, 20, 21, 22, 23, 24] (c_Mo_isPair0 l lf rt nx sz hg nu hd nm le pl wa tx ts ou os wd ws tw tg o1 s1 atp rf rp pS pF pT pL op it isz wh dn wk' me' sh ot n ns t hm x hx d hT) rfl cw_Mo_215 rfl rfl rfl rfl rfl rfl (Nat.le_refl _) (Nat.le_refl _) (fun r h' hp => ?_)
          obtain ⟨rfl, rfl⟩ := hp
          refine aw_go 0 83 [some (.ref 0), some (.int (nI o)), some (.int 1), some (.int ((nI c) + 0)), some (.int (nI r.length)), some (.int (nI x))] [.int 0] (moH lf rt nx sz hg nu hd (nI n) nm le (nI ns) pl wa tx ts ou os wd ws tw tg o1 s1 atp rf rp pS pF pT pL op it isz wh dn wk' me' sh ot) rfl ?_
          refine aw_if_ne rfl (fun h83 => absurd h83 (by decide)) (fun h83 => ?_)
          refine aw_go 1 42 [some (.ref 0), some (.int (nI o)), some (.int 1), some (.int ((nI c) + 0)), some (.int (nI r.length)), some (.int (nI x))] [] (moH lf rt nx sz hg nu hd (nI n) nm le (nI ns) pl wa tx ts ou os wd ws tw tg o1 s1 atp rf rp pS pF pT pL op it isz wh dn wk' me' sh ot) rfl ?_
          -- LOOP 42: [some (.ref 0), some (.int (nI o)), some (.int 1), some (.int ((nI c) + 0)), some (.int (nI r.length)), some (.int (nI x))] [] (moH lf rt nx sz hg nu hd (nI n) nm le (nI ns) pl wa tx ts ou os wd ws tw tg o1 s1 atp rf rp pS pF pT pL op it isz wh dn wk' me' sh ot)
          exact aw_mask [true, true, true, true, true, false] (aw_eq (by simp only [nI_succ, Int32.add_zero, List.length_cons]; rfl) rfl rfl (ih2 (_, c, (r).length, _) ⟨r, x :: D, _, _, hP, hI.step (W2 := r) (by rw [hT]; rfl) (fun y hy => by simp only [List.mem_append, List.mem_cons] at hy ⊢; rcases hy with (hy | hy) | hy <;> simp [hy]) (fun y hy => by simp only [List.mem_append, List.mem_cons] at hy; rcases hy with hy | hy | hy <;> exact Or.inl (by simp [hy])) (fun A2 B2 hT2 => by rw [hT] at hT2; cases hT2), rfl, rfl, rfl⟩ (by show 2 * (n - (r ++ x :: D).length) + (r).length < 2 * (n - (x :: r ++ D).length) + (x :: r).length; have z9 := (hP).le; simp only [List.cons_append, List.length_cons, List.length_append] at z9 hPn ⊢; omega)))
      · refine aw_go 1 67 [some (.ref 0), some (.int (nI o)), some (.int (rb b)), some (.int (nI c)), some (.int (nI r.length)), some (.int (nI x))] [.int (rb b), .int 1, .int (nI c)] (moH lf rt nx sz hg nu hd (nI n) nm le (nI ns) pl wa tx ts ou os wd ws tw tg o1 s1 atp rf rp pS pF pT pL op it isz wh dn wk' me' sh ot) rfl ?_
        cases b
        · skip
          refine aw_go 0 67 [some (.ref 0), some (.int (nI o)), some (.int 0), some (.int (nI c)), some (.int (nI r.length)), some (.int (nI x))] [.int 0, .int 1, .int (nI c)] (moH lf rt nx sz hg nu hd (nI n) nm le (nI ns) pl wa tx ts ou os wd ws tw tg o1 s1 atp rf rp pS pF pT pL op it isz wh dn wk' me' sh ot) rfl ?_
          refine aw_cmp_ne rfl (fun h67 => ?_) (fun h67 => absurd h67 (by decide))
          refine aw_go 5 80 [some (.ref 0), some (.int (nI o)), some (.int 0), some (.int ((nI c) + 0)), some (.int (nI r.length)), some (.int (nI x))] [.int (nI x), .ref 0] (moH lf rt nx sz hg nu hd (nI n) nm le (nI ns) pl wa tx ts ou os wd ws tw tg o1 s1 atp rf rp pS pF pT pL op it isz wh dn wk' me' sh ot) rfl ?_
          refine aw_cV [0, 1, 2, 3, 4, 5, 6, 7, 8, 9, 10, 11, 12, 13, 14, 15, 16, 17, 18, 19, 20, 21, 22, 23, 24] (c_Mo_isPair1 l lf rt nx sz hg nu hd nm le pl wa tx ts ou os wd ws tw tg o1 s1 atp rf rp pS pF pT pL op it isz wh dn wk' me' sh ot n ns t hm x hx A B hT) rfl cw_Mo_215 rfl rfl rfl rfl rfl rfl (Nat.le_refl _) (Nat.le_refl _) (fun r h' hp => ?_)
          obtain ⟨rfl, rfl⟩ := hp
          refine aw_go 0 83 [some (.ref 0), some (.int (nI o)), some (.int 0), some (.int ((nI c) + 0)), some (.int (nI r.length)), some (.int (nI x))] [.int 1] (moH lf rt nx sz hg nu hd (nI n) nm le (nI ns) pl wa tx ts ou os wd ws tw tg o1 s1 atp rf rp pS pF pT pL op it isz wh dn wk' me' sh ot) rfl ?_
          refine aw_if_ne rfl (fun h83 => ?_) (fun h83 => absurd h83 (by decide))
          obtain ⟨a1, b1, ha1, hb1, hlf1, hrt1, hta1, htb1⟩ := hm.pr hx hT
          have hAB := tr_sub_ch (show .op A B ∈ tr_sub (t o) by rw [← hT]; exact hI.2.1 x (by simp))
          refine aw_go 5 99 [some (.ref 0), some (.int (nI o)), some (.int 0), some (.int ((nI c) + 0)), some (.int (nI r.length)), some (.int (nI x))] [.int (nI x), .ref 1, .ref 23] (moH lf rt nx sz hg nu hd (nI n) nm le (nI ns) pl wa tx ts ou os wd ws tw tg o1 s1 atp rf rp pS pF pT pL op it isz wh dn wk' me' sh ot) rfl ?_
          refine aw_ialdN rfl rfl ⟨by omega, by omega⟩ ?_
          rw [hlf1]
          refine aw_zaldN rfl rfl ⟨by omega, by omega⟩ ?_
          refine aw_if_ne rfl (fun h101 => ?_) (fun h101 => ?_)
          · (try rw [show nI r.length + 1 = nI (r.length + 1) from (by rw [nI_succ])])
            refine aw_go 2 138 [some (.ref 0), some (.int (nI o)), some (.int 0), some (.int ((nI c) + 0)), some (.int (nI r.length)), some (.int (nI x))] [.ref 23] (moH lf rt nx sz hg nu hd (nI n) nm le (nI ns) pl wa tx ts ou os wd ws tw tg o1 s1 atp rf rp pS pF pT pL op it isz wh dn wk' me' sh ot) rfl ?_
            try have hoa : a1 ∈ r ++ x :: D := Classical.byContradiction (fun z => h101 ((hP.2.2.1 a1 (by omega)).2 z))
            refine aw_go 3 144 [some (.ref 0), some (.int (nI o)), some (.int 0), some (.int ((nI c) + 0)), some (.int (nI r.length)), some (.int (nI x))] [.int (nI x), .ref 2, .ref 23] (moH lf rt nx sz hg nu hd (nI n) nm le (nI ns) pl wa tx ts ou os wd ws tw tg o1 s1 atp rf rp pS pF pT pL op it isz wh dn wk' me' sh ot) rfl ?_
            refine aw_ialdN rfl rfl ⟨by omega, by omega⟩ ?_
            rw [hrt1]
            refine aw_zaldN rfl rfl ⟨by omega, by omega⟩ ?_
            refine aw_if_ne rfl (fun h146 => ?_) (fun h146 => ?_)
            · refine aw_go 1 42 [some (.ref 0), some (.int (nI o)), some (.int 0), some (.int ((nI c) + 0)), some (.int (nI r.length)), some (.int (nI x))] [] (moH lf rt nx sz hg nu hd (nI n) nm le (nI ns) pl wa tx ts ou os wd ws tw tg o1 s1 atp rf rp pS pF pT pL op it isz wh dn wk' me' sh ot) rfl ?_
              -- LOOP 42: [some (.ref 0), some (.int (nI o)), some (.int 0), some (.int ((nI c) + 0)), some (.int (nI r.length)), some (.int (nI x))] [] (moH lf rt nx sz hg nu hd (nI n) nm le (nI ns) pl wa tx ts ou os wd ws tw tg o1 s1 atp rf rp pS pF pT pL op it isz wh dn wk' me' sh ot)
              have hoa : a1 ∈ r ++ x :: D := Classical.byContradiction (fun z => h101 ((hP.2.2.1 a1 (by omega)).2 z))
              have hob : b1 ∈ r ++ x :: D := Classical.byContradiction (fun z => h146 ((hP.2.2.1 b1 (by omega)).2 z))
              exact aw_mask [true, true, true, true, true, false] (aw_eq (by simp only [nI_succ, Int32.add_zero, List.length_cons]; rfl) rfl rfl (ih2 (_, c, (r).length, _) ⟨r, x :: D, _, _, hP, hI.step (W2 := r) (by rw [hT]; rfl) (fun y hy => by simp only [List.mem_append, List.mem_cons] at hy ⊢; rcases hy with (hy | hy) | hy <;> simp [hy]) (fun y hy => by simp only [List.mem_append, List.mem_cons] at hy; rcases hy with hy | hy | hy <;> first | (refine Or.inr ?_; rw [hy, hta1]; exact hAB.1) | (refine Or.inr ?_; rw [hy, htb1]; exact hAB.2) | (refine Or.inl ?_; simp [hy]; done)) (fun A2 B2 hT2 => by rw [hT] at hT2; injection hT2 with e1 e2; subst e1; subst e2; exact ⟨⟨a1, by have z := hoa; simp only [List.mem_append, List.mem_cons] at z ⊢; first | (rcases z with z | z | z <;> simp [z]) , hta1⟩, ⟨b1, by have z := hob; simp only [List.mem_append, List.mem_cons] at z ⊢; first | (rcases z with z | z | z <;> simp [z]) | (rcases z with (z | z) | z | z <;> simp [z]), htb1⟩⟩), rfl, rfl, rfl⟩ (by show 2 * (n - (r ++ x :: D).length) + (r).length < 2 * (n - (x :: r ++ D).length) + (x :: r).length; have z9 := (hP).le; simp only [List.cons_append, List.length_cons, List.length_append] at z9 hPn ⊢; omega)))
            · refine aw_go 5 159 [some (.ref 0), some (.int (nI o)), some (.int 0), some (.int ((nI c) + 0)), some (.int (nI r.length)), some (.int (nI x))] [.int (nI x), .ref 2, .ref 23] (moH lf rt nx sz hg nu hd (nI n) nm le (nI ns) pl wa tx ts ou os wd ws tw tg o1 s1 atp rf rp pS pF pT pL op it isz wh dn wk' me' sh ot) rfl ?_
              refine aw_ialdN rfl rfl ⟨by omega, by omega⟩ ?_
              rw [hrt1]
              refine aw_go 1 161 [some (.ref 0), some (.int (nI o)), some (.int 0), some (.int ((nI c) + 0)), some (.int (nI r.length)), some (.int (nI x))] [.int 1, .int (nI b1), .ref 23] (moH lf rt nx sz hg nu hd (nI n) nm le (nI ns) pl wa tx ts ou os wd ws tw tg o1 s1 atp rf rp pS pF pT pL op it isz wh dn wk' me' sh ot) rfl ?_
              refine aw_zastN rfl rfl ⟨by omega, by omega⟩ ?_
              refine aw_go 0 162 [some (.ref 0), some (.int (nI o)), some (.int 0), some (.int ((nI c) + 0)), some (.int (nI r.length)), some (.int (nI x))] [] (moH lf rt nx sz hg nu hd (nI n) nm le (nI ns) pl wa tx ts ou os wd ws tw tg o1 s1 atp rf rp pS pF pT pL op it isz wh dn wk' (upd me' b1 (vp_nar .boolean 1)) sh ot) rfl ?_
              rw [show vp_nar .boolean 1 = 1 from rfl]
              refine aw_go 6 174 [some (.ref 0), some (.int (nI o)), some (.int 0), some (.int ((nI c) + 0)), some (.int (nI r.length)), some (.int (nI x))] [.int (nI x), .ref 2, .int (nI r.length), .ref 22] (moH lf rt nx sz hg nu hd (nI n) nm le (nI ns) pl wa tx ts ou os wd ws tw tg o1 s1 atp rf rp pS pF pT pL op it isz wh dn wk' (upd me' b1 1) sh ot) rfl ?_
              refine aw_ialdN rfl rfl ⟨by omega, by omega⟩ ?_
              rw [hrt1]
              refine aw_iastN rfl rfl ⟨by (try simp only [List.cons_append, List.length_cons, List.length_append] at hP1n); omega, by omega⟩ ?_
              refine aw_go 2 42 [some (.ref 0), some (.int (nI o)), some (.int 0), some (.int ((nI c) + 0)), some (.int ((nI r.length) + 1)), some (.int (nI x))] [] (moH lf rt nx sz hg nu hd (nI n) nm le (nI ns) pl wa tx ts ou os wd ws tw tg o1 s1 atp rf rp pS pF pT pL op it isz wh dn (upd wk' r.length (nI b1)) (upd me' b1 1) sh ot) rfl ?_
              -- LOOP 42: [some (.ref 0), some (.int (nI o)), some (.int 0), some (.int ((nI c) + 0)), some (.int ((nI r.length) + 1)), some (.int (nI x))] [] (moH lf rt nx sz hg nu hd (nI n) nm le (nI ns) pl wa tx ts ou os wd ws tw tg o1 s1 atp rf rp pS pF pT pL op it isz wh dn (upd wk' r.length (nI b1)) (upd me' b1 1) sh ot)
              have hoa : a1 ∈ r ++ x :: D := Classical.byContradiction (fun z => h101 ((hP.2.2.1 a1 (by omega)).2 z))
              have hnb : b1 ∉ r ++ x :: D := (fun z => by have := (hP.2.2.1 b1 (by omega)).1 z; rw [this] at h146; exact absurd h146 (by decide))
              exact aw_mask [true, true, true, true, true, false] (aw_eq (by simp only [nI_succ, Int32.add_zero, List.length_cons]; rfl) rfl rfl (ih2 (_, c, (b1 :: r).length, _) ⟨b1 :: r, x :: D, _, _, (hP.push (show b1 < n by omega) hnb), hI.step (W2 := b1 :: r) (by rw [hT]; rfl) (fun y hy => by simp only [List.mem_append, List.mem_cons] at hy ⊢; rcases hy with (hy | hy) | hy <;> simp [hy]) (fun y hy => by simp only [List.mem_append, List.mem_cons] at hy; rcases hy with (hy | hy) | hy | hy <;> first | (refine Or.inr ?_; rw [hy, hta1]; exact hAB.1) | (refine Or.inr ?_; rw [hy, htb1]; exact hAB.2) | (refine Or.inl ?_; simp [hy]; done)) (fun A2 B2 hT2 => by rw [hT] at hT2; injection hT2 with e1 e2; subst e1; subst e2; exact ⟨⟨a1, by have z := hoa; simp only [List.mem_append, List.mem_cons] at z ⊢; first | (rcases z with z | z | z <;> simp [z]) , hta1⟩, ⟨b1, by simp, htb1⟩⟩), rfl, rfl, rfl⟩ (by show 2 * (n - (b1 :: r ++ x :: D).length) + (b1 :: r).length < 2 * (n - (x :: r ++ D).length) + (x :: r).length; have z9 := ((hP.push (show b1 < n by omega) hnb)).le; simp only [List.cons_append, List.length_cons, List.length_append] at z9 hPn ⊢; omega)))
          · have hna : a1 ∉ r ++ x :: D := (fun z => by have := (hP.2.2.1 a1 (by omega)).1 z; rw [this] at h101; exact absurd h101 (by decide))
            have hP1 := hP.push (show a1 < n by omega) hna
            have hP1n := hP1.le
            refine aw_go 5 114 [some (.ref 0), some (.int (nI o)), some (.int 0), some (.int ((nI c) + 0)), some (.int (nI r.length)), some (.int (nI x))] [.int (nI x), .ref 1, .ref 23] (moH lf rt nx sz hg nu hd (nI n) nm le (nI ns) pl wa tx ts ou os wd ws tw tg o1 s1 atp rf rp pS pF pT pL op it isz wh dn wk' me' sh ot) rfl ?_
            refine aw_ialdN rfl rfl ⟨by omega, by omega⟩ ?_
            rw [hlf1]
            refine aw_go 1 116 [some (.ref 0), some (.int (nI o)), some (.int 0), some (.int ((nI c) + 0)), some (.int (nI r.length)), some (.int (nI x))] [.int 1, .int (nI a1), .ref 23] (moH lf rt nx sz hg nu hd (nI n) nm le (nI ns) pl wa tx ts ou os wd ws tw tg o1 s1 atp rf rp pS pF pT pL op it isz wh dn wk' me' sh ot) rfl ?_
            refine aw_zastN rfl rfl ⟨by omega, by omega⟩ ?_
            refine aw_go 0 117 [some (.ref 0), some (.int (nI o)), some (.int 0), some (.int ((nI c) + 0)), some (.int (nI r.length)), some (.int (nI x))] [] (moH lf rt nx sz hg nu hd (nI n) nm le (nI ns) pl wa tx ts ou os wd ws tw tg o1 s1 atp rf rp pS pF pT pL op it isz wh dn wk' (upd me' a1 (vp_nar .boolean 1)) sh ot) rfl ?_
            rw [show vp_nar .boolean 1 = 1 from rfl]
            refine aw_go 6 129 [some (.ref 0), some (.int (nI o)), some (.int 0), some (.int ((nI c) + 0)), some (.int (nI r.length)), some (.int (nI x))] [.int (nI x), .ref 1, .int (nI r.length), .ref 22] (moH lf rt nx sz hg nu hd (nI n) nm le (nI ns) pl wa tx ts ou os wd ws tw tg o1 s1 atp rf rp pS pF pT pL op it isz wh dn wk' (upd me' a1 1) sh ot) rfl ?_
            refine aw_ialdN rfl rfl ⟨by omega, by omega⟩ ?_
            rw [hlf1]
            refine aw_iastN rfl rfl ⟨by simp only [List.cons_append, List.length_cons, List.length_append] at hP1n; omega, by omega⟩ ?_
            refine aw_go 0 131 [some (.ref 0), some (.int (nI o)), some (.int 0), some (.int ((nI c) + 0)), some (.int (nI r.length)), some (.int (nI x))] [] (moH lf rt nx sz hg nu hd (nI n) nm le (nI ns) pl wa tx ts ou os wd ws tw tg o1 s1 atp rf rp pS pF pT pL op it isz wh dn (upd wk' r.length (nI a1)) (upd me' a1 1) sh ot) rfl ?_
            skip
            refine aw_go 1 134 [some (.ref 0), some (.int (nI o)), some (.int 0), some (.int ((nI c) + 0)), some (.int ((nI r.length) + 1)), some (.int (nI x))] [] (moH lf rt nx sz hg nu hd (nI n) nm le (nI ns) pl wa tx ts ou os wd ws tw tg o1 s1 atp rf rp pS pF pT pL op it isz wh dn (upd wk' r.length (nI a1)) (upd me' a1 1) sh ot) rfl ?_
            (try rw [show nI r.length + 1 = nI (r.length + 1) from (by rw [nI_succ])])
            refine aw_go 2 138 [some (.ref 0), some (.int (nI o)), some (.int 0), some (.int ((nI c) + 0)), some (.int (nI (r.length + 1))), some (.int (nI x))] [.ref 23] (moH lf rt nx sz hg nu hd (nI n) nm le (nI ns) pl wa tx ts ou os wd ws tw tg o1 s1 atp rf rp pS pF pT pL op it isz wh dn (upd wk' r.length (nI a1)) (upd me' a1 1) sh ot) rfl ?_
            try have hoa : a1 ∈ r ++ x :: D := Classical.byContradiction (fun z => h101 ((hP.2.2.1 a1 (by omega)).2 z))
            refine aw_go 3 144 [some (.ref 0), some (.int (nI o)), some (.int 0), some (.int ((nI c) + 0)), some (.int (nI (r.length + 1))), some (.int (nI x))] [.int (nI x), .ref 2, .ref 23] (moH lf rt nx sz hg nu hd (nI n) nm le (nI ns) pl wa tx ts ou os wd ws tw tg o1 s1 atp rf rp pS pF pT pL op it isz wh dn (upd wk' r.length (nI a1)) (upd me' a1 1) sh ot) rfl ?_
            refine aw_ialdN rfl rfl ⟨by omega, by omega⟩ ?_
            rw [hrt1]
            refine aw_zaldN rfl rfl ⟨by omega, by omega⟩ ?_
            refine aw_if_ne rfl (fun h146 => ?_) (fun h146 => ?_)
            · refine aw_go 1 42 [some (.ref 0), some (.int (nI o)), some (.int 0), some (.int ((nI c) + 0)), some (.int (nI (r.length + 1))), some (.int (nI x))] [] (moH lf rt nx sz hg nu hd (nI n) nm le (nI ns) pl wa tx ts ou os wd ws tw tg o1 s1 atp rf rp pS pF pT pL op it isz wh dn (upd wk' r.length (nI a1)) (upd me' a1 1) sh ot) rfl ?_
              -- LOOP 42: [some (.ref 0), some (.int (nI o)), some (.int 0), some (.int ((nI c) + 0)), some (.int (nI (r.length + 1))), some (.int (nI x))] [] (moH lf rt nx sz hg nu hd (nI n) nm le (nI ns) pl wa tx ts ou os wd ws tw tg o1 s1 atp rf rp pS pF pT pL op it isz wh dn (upd wk' r.length (nI a1)) (upd me' a1 1) sh ot)
              have hob : b1 ∈ a1 :: r ++ x :: D := Classical.byContradiction (fun z => h146 ((hP1.2.2.1 b1 (by omega)).2 z))
              exact aw_mask [true, true, true, true, true, false] (aw_eq (by simp only [nI_succ, Int32.add_zero, List.length_cons]; rfl) rfl rfl (ih2 (_, c, (a1 :: r).length, _) ⟨a1 :: r, x :: D, _, _, hP1, hI.step (W2 := a1 :: r) (by rw [hT]; rfl) (fun y hy => by simp only [List.mem_append, List.mem_cons] at hy ⊢; rcases hy with (hy | hy) | hy <;> simp [hy]) (fun y hy => by simp only [List.mem_append, List.mem_cons] at hy; rcases hy with (hy | hy) | hy | hy <;> first | (refine Or.inr ?_; rw [hy, hta1]; exact hAB.1) | (refine Or.inr ?_; rw [hy, htb1]; exact hAB.2) | (refine Or.inl ?_; simp [hy]; done)) (fun A2 B2 hT2 => by rw [hT] at hT2; injection hT2 with e1 e2; subst e1; subst e2; exact ⟨⟨a1, by simp, hta1⟩, ⟨b1, by have z := hob; simp only [List.mem_append, List.mem_cons] at z ⊢; first | (rcases z with z | z | z <;> simp [z]) | (rcases z with (z | z) | z | z <;> simp [z]), htb1⟩⟩), rfl, rfl, rfl⟩ (by show 2 * (n - (a1 :: r ++ x :: D).length) + (a1 :: r).length < 2 * (n - (x :: r ++ D).length) + (x :: r).length; have z9 := (hP1).le; simp only [List.cons_append, List.length_cons, List.length_append] at z9 hPn ⊢; omega)))
            · refine aw_go 5 159 [some (.ref 0), some (.int (nI o)), some (.int 0), some (.int ((nI c) + 0)), some (.int (nI (r.length + 1))), some (.int (nI x))] [.int (nI x), .ref 2, .ref 23] (moH lf rt nx sz hg nu hd (nI n) nm le (nI ns) pl wa tx ts ou os wd ws tw tg o1 s1 atp rf rp pS pF pT pL op it isz wh dn (upd wk' r.length (nI a1)) (upd me' a1 1) sh ot) rfl ?_
              refine aw_ialdN rfl rfl ⟨by omega, by omega⟩ ?_
              rw [hrt1]
              refine aw_go 1 161 [some (.ref 0), some (.int (nI o)), some (.int 0), some (.int ((nI c) + 0)), some (.int (nI (r.length + 1))), some (.int (nI x))] [.int 1, .int (nI b1), .ref 23] (moH lf rt nx sz hg nu hd (nI n) nm le (nI ns) pl wa tx ts ou os wd ws tw tg o1 s1 atp rf rp pS pF pT pL op it isz wh dn (upd wk' r.length (nI a1)) (upd me' a1 1) sh ot) rfl ?_
              refine aw_zastN rfl rfl ⟨by omega, by omega⟩ ?_
              refine aw_go 0 162 [some (.ref 0), some (.int (nI o)), some (.int 0), some (.int ((nI c) + 0)), some (.int (nI (r.length + 1))), some (.int (nI x))] [] (moH lf rt nx sz hg nu hd (nI n) nm le (nI ns) pl wa tx ts ou os wd ws tw tg o1 s1 atp rf rp pS pF pT pL op it isz wh dn (upd wk' r.length (nI a1)) (upd (upd me' a1 1) b1 (vp_nar .boolean 1)) sh ot) rfl ?_
              rw [show vp_nar .boolean 1 = 1 from rfl]
              refine aw_go 6 174 [some (.ref 0), some (.int (nI o)), some (.int 0), some (.int ((nI c) + 0)), some (.int (nI (r.length + 1))), some (.int (nI x))] [.int (nI x), .ref 2, .int (nI (r.length + 1)), .ref 22] (moH lf rt nx sz hg nu hd (nI n) nm le (nI ns) pl wa tx ts ou os wd ws tw tg o1 s1 atp rf rp pS pF pT pL op it isz wh dn (upd wk' r.length (nI a1)) (upd (upd me' a1 1) b1 1) sh ot) rfl ?_
              refine aw_ialdN rfl rfl ⟨by omega, by omega⟩ ?_
              rw [hrt1]
              refine aw_iastN rfl rfl ⟨by (try simp only [List.cons_append, List.length_cons, List.length_append] at hP1n); omega, by omega⟩ ?_
              refine aw_go 2 42 [some (.ref 0), some (.int (nI o)), some (.int 0), some (.int ((nI c) + 0)), some (.int ((nI (r.length + 1)) + 1)), some (.int (nI x))] [] (moH lf rt nx sz hg nu hd (nI n) nm le (nI ns) pl wa tx ts ou os wd ws tw tg o1 s1 atp rf rp pS pF pT pL op it isz wh dn (upd (upd wk' r.length (nI a1)) (r.length + 1) (nI b1)) (upd (upd me' a1 1) b1 1) sh ot) rfl ?_
              -- LOOP 42: [some (.ref 0), some (.int (nI o)), some (.int 0), some (.int ((nI c) + 0)), some (.int ((nI (r.length + 1)) + 1)), some (.int (nI x))] [] (moH lf rt nx sz hg nu hd (nI n) nm le (nI ns) pl wa tx ts ou os wd ws tw tg o1 s1 atp rf rp pS pF pT pL op it isz wh dn (upd (upd wk' r.length (nI a1)) (r.length + 1) (nI b1)) (upd (upd me' a1 1) b1 1) sh ot)
              have hnb : b1 ∉ a1 :: r ++ x :: D := (fun z => by have := (hP1.2.2.1 b1 (by omega)).1 z; rw [this] at h146; exact absurd h146 (by decide))
              exact aw_mask [true, true, true, true, true, false] (aw_eq (by simp only [nI_succ, Int32.add_zero, List.length_cons]; rfl) rfl rfl (ih2 (_, c, (b1 :: a1 :: r).length, _) ⟨b1 :: a1 :: r, x :: D, _, _, (hP1.push (show b1 < n by omega) hnb), hI.step (W2 := b1 :: a1 :: r) (by rw [hT]; rfl) (fun y hy => by simp only [List.mem_append, List.mem_cons] at hy ⊢; rcases hy with (hy | hy) | hy <;> simp [hy]) (fun y hy => by simp only [List.mem_append, List.mem_cons] at hy; rcases hy with (hy | hy | hy) | hy | hy <;> first | (refine Or.inr ?_; rw [hy, hta1]; exact hAB.1) | (refine Or.inr ?_; rw [hy, htb1]; exact hAB.2) | (refine Or.inl ?_; simp [hy]; done)) (fun A2 B2 hT2 => by rw [hT] at hT2; injection hT2 with e1 e2; subst e1; subst e2; exact ⟨⟨a1, by simp, hta1⟩, ⟨b1, by simp, htb1⟩⟩), rfl, rfl, rfl⟩ (by show 2 * (n - (b1 :: a1 :: r ++ x :: D).length) + (b1 :: a1 :: r).length < 2 * (n - (x :: r ++ D).length) + (x :: r).length; have z9 := ((hP1.push (show b1 < n by omega) hnb)).le; simp only [List.cons_append, List.length_cons, List.length_append] at z9 hPn ⊢; omega)))
        · skip
          refine aw_go 0 67 [some (.ref 0), some (.int (nI o)), some (.int 1), some (.int (nI c)), some (.int (nI r.length)), some (.int (nI x))] [.int 1, .int 1, .int (nI c)] (moH lf rt nx sz hg nu hd (nI n) nm le (nI ns) pl wa tx ts ou os wd ws tw tg o1 s1 atp rf rp pS pF pT pL op it isz wh dn wk' me' sh ot) rfl ?_
          refine aw_cmp_ne rfl (fun h67 => absurd h67 (by decide)) (fun h67 => ?_)
          refine aw_go 6 80 [some (.ref 0), some (.int (nI o)), some (.int 1), some (.int ((nI c) + 1)), some (.int (nI r.length)), some (.int (nI x))] [.int (nI x), .ref 0] (moH lf rt nx sz hg nu hd (nI n) nm le (nI ns) pl wa tx ts ou os wd ws tw tg o1 s1 atp rf rp pS pF pT pL op it isz wh dn wk' me' sh ot) rfl ?_
          refine aw_cV [0, 1, 2, 3, 4, 5, 6, 7, 8, 9, 10, 11, 12, 13, 14, 15, 16, 17, 18, 19, 20, 21, 22, 23, 24] (c_Mo_isPair1 l lf rt nx sz hg nu hd nm le pl wa tx ts ou os wd ws tw tg o1 s1 atp rf rp pS pF pT pL op it isz wh dn wk' me' sh ot n ns t hm x hx A B hT) rfl cw_Mo_215 rfl rfl rfl rfl rfl rfl (Nat.le_refl _) (Nat.le_refl _) (fun r h' hp => ?_)
          obtain ⟨rfl, rfl⟩ := hp
          refine aw_go 0 83 [some (.ref 0), some (.int (nI o)), some (.int 1), some (.int ((nI c) + 1)), some (.int (nI r.length)), some (.int (nI x))] [.int 1] (moH lf rt nx sz hg nu hd (nI n) nm le (nI ns) pl wa tx ts ou os wd ws tw tg o1 s1 atp rf rp pS pF pT pL op it isz wh dn wk' me' sh ot) rfl ?_
          refine aw_if_ne rfl (fun h83 => ?_) (fun h83 => absurd h83 (by decide))
          obtain ⟨a1, b1, ha1, hb1, hlf1, hrt1, hta1, htb1⟩ := hm.pr hx hT
          have hAB := tr_sub_ch (show .op A B ∈ tr_sub (t o) by rw [← hT]; exact hI.2.1 x (by simp))
          refine aw_go 5 99 [some (.ref 0), some (.int (nI o)), some (.int 1), some (.int ((nI c) + 1)), some (.int (nI r.length)), some (.int (nI x))] [.int (nI x), .ref 1, .ref 23] (moH lf rt nx sz hg nu hd (nI n) nm le (nI ns) pl wa tx ts ou os wd ws tw tg o1 s1 atp rf rp pS pF pT pL op it isz wh dn wk' me' sh ot) rfl ?_
          refine aw_ialdN rfl rfl ⟨by omega, by omega⟩ ?_
          rw [hlf1]
          refine aw_zaldN rfl rfl ⟨by omega, by omega⟩ ?_
          refine aw_if_ne rfl (fun h101 => ?_) (fun h101 => ?_)
          · (try rw [show nI r.length + 1 = nI (r.length + 1) from (by rw [nI_succ])])
            refine aw_go 2 138 [some (.ref 0), some (.int (nI o)), some (.int 1), some (.int ((nI c) + 1)), some (.int (nI r.length)), some (.int (nI x))] [.ref 23] (moH lf rt nx sz hg nu hd (nI n) nm le (nI ns) pl wa tx ts ou os wd ws tw tg o1 s1 atp rf rp pS pF pT pL op it isz wh dn wk' me' sh ot) rfl ?_
            try have hoa : a1 ∈ r ++ x :: D := Classical.byContradiction (fun z => h101 ((hP.2.2.1 a1 (by omega)).2 z))
            refine aw_go 3 144 [some (.ref 0), some (.int (nI o)), some (.int 1), some (.int ((nI c) + 1)), some (.int (nI r.length)), some (.int (nI x))] [.int (nI x), .ref 2, .ref 23] (moH lf rt nx sz hg nu hd (nI n) nm le (nI ns) pl wa tx ts ou os wd ws tw tg o1 s1 atp rf rp pS pF pT pL op it isz wh dn wk' me' sh ot) rfl ?_
            refine aw_ialdN rfl rfl ⟨by omega, by omega⟩ ?_
            rw [hrt1]
            refine aw_zaldN rfl rfl ⟨by omega, by omega⟩ ?_
            refine aw_if_ne rfl (fun h146 => ?_) (fun h146 => ?_)
            · refine aw_go 1 42 [some (.ref 0), some (.int (nI o)), some (.int 1), some (.int ((nI c) + 1)), some (.int (nI r.length)), some (.int (nI x))] [] (moH lf rt nx sz hg nu hd (nI n) nm le (nI ns) pl wa tx ts ou os wd ws tw tg o1 s1 atp rf rp pS pF pT pL op it isz wh dn wk' me' sh ot) rfl ?_
              -- LOOP 42: [some (.ref 0), some (.int (nI o)), some (.int 1), some (.int ((nI c) + 1)), some (.int (nI r.length)), some (.int (nI x))] [] (moH lf rt nx sz hg nu hd (nI n) nm le (nI ns) pl wa tx ts ou os wd ws tw tg o1 s1 atp rf rp pS pF pT pL op it isz wh dn wk' me' sh ot)
              have hoa : a1 ∈ r ++ x :: D := Classical.byContradiction (fun z => h101 ((hP.2.2.1 a1 (by omega)).2 z))
              have hob : b1 ∈ r ++ x :: D := Classical.byContradiction (fun z => h146 ((hP.2.2.1 b1 (by omega)).2 z))
              exact aw_mask [true, true, true, true, true, false] (aw_eq (by simp only [nI_succ, Int32.add_zero, List.length_cons]; rfl) rfl rfl (ih2 (_, c + 1, (r).length, _) ⟨r, x :: D, _, _, hP, hI.step (W2 := r) (by rw [hT]; rfl) (fun y hy => by simp only [List.mem_append, List.mem_cons] at hy ⊢; rcases hy with (hy | hy) | hy <;> simp [hy]) (fun y hy => by simp only [List.mem_append, List.mem_cons] at hy; rcases hy with hy | hy | hy <;> first | (refine Or.inr ?_; rw [hy, hta1]; exact hAB.1) | (refine Or.inr ?_; rw [hy, htb1]; exact hAB.2) | (refine Or.inl ?_; simp [hy]; done)) (fun A2 B2 hT2 => by rw [hT] at hT2; injection hT2 with e1 e2; subst e1; subst e2; exact ⟨⟨a1, by have z := hoa; simp only [List.mem_append, List.mem_cons] at z ⊢; first | (rcases z with z | z | z <;> simp [z]) , hta1⟩, ⟨b1, by have z := hob; simp only [List.mem_append, List.mem_cons] at z ⊢; first | (rcases z with z | z | z <;> simp [z]) | (rcases z with (z | z) | z | z <;> simp [z]), htb1⟩⟩), rfl, rfl, rfl⟩ (by show 2 * (n - (r ++ x :: D).length) + (r).length < 2 * (n - (x :: r ++ D).length) + (x :: r).length; have z9 := (hP).le; simp only [List.cons_append, List.length_cons, List.length_append] at z9 hPn ⊢; omega)))
            · refine aw_go 5 159 [some (.ref 0), some (.int (nI o)), some (.int 1), some (.int ((nI c) + 1)), some (.int (nI r.length)), some (.int (nI x))] [.int (nI x), .ref 2, .ref 23] (moH lf rt nx sz hg nu hd (nI n) nm le (nI ns) pl wa tx ts ou os wd ws tw tg o1 s1 atp rf rp pS pF pT pL op it isz wh dn wk' me' sh ot) rfl ?_
              refine aw_ialdN rfl rfl ⟨by omega, by omega⟩ ?_
              rw [hrt1]
              refine aw_go 1 161 [some (.ref 0), some (.int (nI o)), some (.int 1), some (.int ((nI c) + 1)), some (.int (nI r.length)), some (.int (nI x))] [.int 1, .int (nI b1), .ref 23] (moH lf rt nx sz hg nu hd (nI n) nm le (nI ns) pl wa tx ts ou os wd ws tw tg o1 s1 atp rf rp pS pF pT pL op it isz wh dn wk' me' sh ot) rfl ?_
              refine aw_zastN rfl rfl ⟨by omega, by omega⟩ ?_
              refine aw_go 0 162 [some (.ref 0), some (.int (nI o)), some (.int 1), some (.int ((nI c) + 1)), some (.int (nI r.length)), some (.int (nI x))] [] (moH lf rt nx sz hg nu hd (nI n) nm le (nI ns) pl wa tx ts ou os wd ws tw tg o1 s1 atp rf rp pS pF pT pL op it isz wh dn wk' (upd me' b1 (vp_nar .boolean 1)) sh ot) rfl ?_
              rw [show vp_nar .boolean 1 = 1 from rfl]
              refine aw_go 6 174 [some (.ref 0), some (.int (nI o)), some (.int 1), some (.int ((nI c) + 1)), some (.int (nI r.length)), some (.int (nI x))] [.int (nI x), .ref 2, .int (nI r.length), .ref 22] (moH lf rt nx sz hg nu hd (nI n) nm le (nI ns) pl wa tx ts ou os wd ws tw tg o1 s1 atp rf rp pS pF pT pL op it isz wh dn wk' (upd me' b1 1) sh ot) rfl ?_
              refine aw_ialdN rfl rfl ⟨by omega, by omega⟩ ?_
              rw [hrt1]
              refine aw_iastN rfl rfl ⟨by (try simp only [List.cons_append, List.length_cons, List.length_append] at hP1n); omega, by omega⟩ ?_
              refine aw_go 2 42 [some (.ref 0), some (.int (nI o)), some (.int 1), some (.int ((nI c) + 1)), some (.int ((nI r.length) + 1)), some (.int (nI x))] [] (moH lf rt nx sz hg nu hd (nI n) nm le (nI ns) pl wa tx ts ou os wd ws tw tg o1 s1 atp rf rp pS pF pT pL op it isz wh dn (upd wk' r.length (nI b1)) (upd me' b1 1) sh ot) rfl ?_
              -- LOOP 42: [some (.ref 0), some (.int (nI o)), some (.int 1), some (.int ((nI c) + 1)), some (.int ((nI r.length) + 1)), some (.int (nI x))] [] (moH lf rt nx sz hg nu hd (nI n) nm le (nI ns) pl wa tx ts ou os wd ws tw tg o1 s1 atp rf rp pS pF pT pL op it isz wh dn (upd wk' r.length (nI b1)) (upd me' b1 1) sh ot)
              have hoa : a1 ∈ r ++ x :: D := Classical.byContradiction (fun z => h101 ((hP.2.2.1 a1 (by omega)).2 z))
              have hnb : b1 ∉ r ++ x :: D := (fun z => by have := (hP.2.2.1 b1 (by omega)).1 z; rw [this] at h146; exact absurd h146 (by decide))
              exact aw_mask [true, true, true, true, true, false] (aw_eq (by simp only [nI_succ, Int32.add_zero, List.length_cons]; rfl) rfl rfl (ih2 (_, c + 1, (b1 :: r).length, _) ⟨b1 :: r, x :: D, _, _, (hP.push (show b1 < n by omega) hnb), hI.step (W2 := b1 :: r) (by rw [hT]; rfl) (fun y hy => by simp only [List.mem_append, List.mem_cons] at hy ⊢; rcases hy with (hy | hy) | hy <;> simp [hy]) (fun y hy => by simp only [List.mem_append, List.mem_cons] at hy; rcases hy with (hy | hy) | hy | hy <;> first | (refine Or.inr ?_; rw [hy, hta1]; exact hAB.1) | (refine Or.inr ?_; rw [hy, htb1]; exact hAB.2) | (refine Or.inl ?_; simp [hy]; done)) (fun A2 B2 hT2 => by rw [hT] at hT2; injection hT2 with e1 e2; subst e1; subst e2; exact ⟨⟨a1, by have z := hoa; simp only [List.mem_append, List.mem_cons] at z ⊢; first | (rcases z with z | z | z <;> simp [z]) , hta1⟩, ⟨b1, by simp, htb1⟩⟩), rfl, rfl, rfl⟩ (by show 2 * (n - (b1 :: r ++ x :: D).length) + (b1 :: r).length < 2 * (n - (x :: r ++ D).length) + (x :: r).length; have z9 := ((hP.push (show b1 < n by omega) hnb)).le; simp only [List.cons_append, List.length_cons, List.length_append] at z9 hPn ⊢; omega)))
          · have hna : a1 ∉ r ++ x :: D := (fun z => by have := (hP.2.2.1 a1 (by omega)).1 z; rw [this] at h101; exact absurd h101 (by decide))
            have hP1 := hP.push (show a1 < n by omega) hna
            have hP1n := hP1.le
            refine aw_go 5 114 [some (.ref 0), some (.int (nI o)), some (.int 1), some (.int ((nI c) + 1)), some (.int (nI r.length)), some (.int (nI x))] [.int (nI x), .ref 1, .ref 23] (moH lf rt nx sz hg nu hd (nI n) nm le (nI ns) pl wa tx ts ou os wd ws tw tg o1 s1 atp rf rp pS pF pT pL op it isz wh dn wk' me' sh ot) rfl ?_
            refine aw_ialdN rfl rfl ⟨by omega, by omega⟩ ?_
            rw [hlf1]
            refine aw_go 1 116 [some (.ref 0), some (.int (nI o)), some (.int 1), some (.int ((nI c) + 1)), some (.int (nI r.length)), some (.int (nI x))] [.int 1, .int (nI a1), .ref 23] (moH lf rt nx sz hg nu hd (nI n) nm le (nI ns) pl wa tx ts ou os wd ws tw tg o1 s1 atp rf rp pS pF pT pL op it isz wh dn wk' me' sh ot) rfl ?_
            refine aw_zastN rfl rfl ⟨by omega, by omega⟩ ?_
            refine aw_go 0 117 [some (.ref 0), some (.int (nI o)), some (.int 1), some (.int ((nI c) + 1)), some (.int (nI r.length)), some (.int (nI x))] [] (moH lf rt nx sz hg nu hd (nI n) nm le (nI ns) pl wa tx ts ou os wd ws tw tg o1 s1 atp rf rp pS pF pT pL op it isz wh dn wk' (upd me' a1 (vp_nar .boolean 1)) sh ot) rfl ?_
            rw [show vp_nar .boolean 1 = 1 from rfl]
            refine aw_go 6 129 [some (.ref 0), some (.int (nI o)), some (.int 1), some (.int ((nI c) + 1)), some (.int (nI r.length)), some (.int (nI x))] [.int (nI x), .ref 1, .int (nI r.length), .ref 22] (moH lf rt nx sz hg nu hd (nI n) nm le (nI ns) pl wa tx ts ou os wd ws tw tg o1 s1 atp rf rp pS pF pT pL op it isz wh dn wk' (upd me' a1 1) sh ot) rfl ?_
            refine aw_ialdN rfl rfl ⟨by omega, by omega⟩ ?_
            rw [hlf1]
            refine aw_iastN rfl rfl ⟨by simp only [List.cons_append, List.length_cons, List.length_append] at hP1n; omega, by omega⟩ ?_
            refine aw_go 0 131 [some (.ref 0), some (.int (nI o)), some (.int 1), some (.int ((nI c) + 1)), some (.int (nI r.length)), some (.int (nI x))] [] (moH lf rt nx sz hg nu hd (nI n) nm le (nI ns) pl wa tx ts ou os wd ws tw tg o1 s1 atp rf rp pS pF pT pL op it isz wh dn (upd wk' r.length (nI a1)) (upd me' a1 1) sh ot) rfl ?_
            skip
            refine aw_go 1 134 [some (.ref 0), some (.int (nI o)), some (.int 1), some (.int ((nI c) + 1)), some (.int ((nI r.length) + 1)), some (.int (nI x))] [] (moH lf rt nx sz hg nu hd (nI n) nm le (nI ns) pl wa tx ts ou os wd ws tw tg o1 s1 atp rf rp pS pF pT pL op it isz wh dn (upd wk' r.length (nI a1)) (upd me' a1 1) sh ot) rfl ?_
            (try rw [show nI r.length + 1 = nI (r.length + 1) from (by rw [nI_succ])])
            refine aw_go 2 138 [some (.ref 0), some (.int (nI o)), some (.int 1), some (.int ((nI c) + 1)), some (.int (nI (r.length + 1))), some (.int (nI x))] [.ref 23] (moH lf rt nx sz hg nu hd (nI n) nm le (nI ns) pl wa tx ts ou os wd ws tw tg o1 s1 atp rf rp pS pF pT pL op it isz wh dn (upd wk' r.length (nI a1)) (upd me' a1 1) sh ot) rfl ?_
            try have hoa : a1 ∈ r ++ x :: D := Classical.byContradiction (fun z => h101 ((hP.2.2.1 a1 (by omega)).2 z))
            refine aw_go 3 144 [some (.ref 0), some (.int (nI o)), some (.int 1), some (.int ((nI c) + 1)), some (.int (nI (r.length + 1))), some (.int (nI x))] [.int (nI x), .ref 2, .ref 23] (moH lf rt nx sz hg nu hd (nI n) nm le (nI ns) pl wa tx ts ou os wd ws tw tg o1 s1 atp rf rp pS pF pT pL op it isz wh dn (upd wk' r.length (nI a1)) (upd me' a1 1) sh ot) rfl ?_
            refine aw_ialdN rfl rfl ⟨by omega, by omega⟩ ?_
            rw [hrt1]
            refine aw_zaldN rfl rfl ⟨by omega, by omega⟩ ?_
            refine aw_if_ne rfl (fun h146 => ?_) (fun h146 => ?_)
            · refine aw_go 1 42 [some (.ref 0), some (.int (nI o)), some (.int 1), some (.int ((nI c) + 1)), some (.int (nI (r.length + 1))), some (.int (nI x))] [] (moH lf rt nx sz hg nu hd (nI n) nm le (nI ns) pl wa tx ts ou os wd ws tw tg o1 s1 atp rf rp pS pF pT pL op it isz wh dn (upd wk' r.length (nI a1)) (upd me' a1 1) sh ot) rfl ?_
              -- LOOP 42: [some (.ref 0), some (.int (nI o)), some (.int 1), some (.int ((nI c) + 1)), some (.int (nI (r.length + 1))), some (.int (nI x))] [] (moH lf rt nx sz hg nu hd (nI n) nm le (nI ns) pl wa tx ts ou os wd ws tw tg o1 s1 atp rf rp pS pF pT pL op it isz wh dn (upd wk' r.length (nI a1)) (upd me' a1 1) sh ot)
              have hob : b1 ∈ a1 :: r ++ x :: D := Classical.byContradiction (fun z => h146 ((hP1.2.2.1 b1 (by omega)).2 z))
              exact aw_mask [true, true, true, true, true, false] (aw_eq (by simp only [nI_succ, Int32.add_zero, List.length_cons]; rfl) rfl rfl (ih2 (_, c + 1, (a1 :: r).length, _) ⟨a1 :: r, x :: D, _, _, hP1, hI.step (W2 := a1 :: r) (by rw [hT]; rfl) (fun y hy => by simp only [List.mem_append, List.mem_cons] at hy ⊢; rcases hy with (hy | hy) | hy <;> simp [hy]) (fun y hy => by simp only [List.mem_append, List.mem_cons] at hy; rcases hy with (hy | hy) | hy | hy <;> first | (refine Or.inr ?_; rw [hy, hta1]; exact hAB.1) | (refine Or.inr ?_; rw [hy, htb1]; exact hAB.2) | (refine Or.inl ?_; simp [hy]; done)) (fun A2 B2 hT2 => by rw [hT] at hT2; injection hT2 with e1 e2; subst e1; subst e2; exact ⟨⟨a1, by simp, hta1⟩, ⟨b1, by have z := hob; simp only [List.mem_append, List.mem_cons] at z ⊢; first | (rcases z with z | z | z <;> simp [z]) | (rcases z with (z | z) | z | z <;> simp [z]), htb1⟩⟩), rfl, rfl, rfl⟩ (by show 2 * (n - (a1 :: r ++ x :: D).length) + (a1 :: r).length < 2 * (n - (x :: r ++ D).length) + (x :: r).length; have z9 := (hP1).le; simp only [List.cons_append, List.length_cons, List.length_append] at z9 hPn ⊢; omega)))
            · refine aw_go 5 159 [some (.ref 0), some (.int (nI o)), some (.int 1), some (.int ((nI c) + 1)), some (.int (nI (r.length + 1))), some (.int (nI x))] [.int (nI x), .ref 2, .ref 23] (moH lf rt nx sz hg nu hd (nI n) nm le (nI ns) pl wa tx ts ou os wd ws tw tg o1 s1 atp rf rp pS pF pT pL op it isz wh dn (upd wk' r.length (nI a1)) (upd me' a1 1) sh ot) rfl ?_
              refine aw_ialdN rfl rfl ⟨by omega, by omega⟩ ?_
              rw [hrt1]
              refine aw_go 1 161 [some (.ref 0), some (.int (nI o)), some (.int 1), some (.int ((nI c) + 1)), some (.int (nI (r.length + 1))), some (.int (nI x))] [.int 1, .int (nI b1), .ref 23] (moH lf rt nx sz hg nu hd (nI n) nm le (nI ns) pl wa tx ts ou os wd ws tw tg o1 s1 atp rf rp pS pF pT pL op it isz wh dn (upd wk' r.length (nI a1)) (upd me' a1 1) sh ot) rfl ?_
              refine aw_zastN rfl rfl ⟨by omega, by omega⟩ ?_
              refine aw_go 0 162 [some (.ref 0), some (.int (nI o)), some (.int 1), some (.int ((nI c) + 1)), some (.int (nI (r.length + 1))), some (.int (nI x))] [] (moH lf rt nx sz hg nu hd (nI n) nm le (nI ns) pl wa tx ts ou os wd ws tw tg o1 s1 atp rf rp pS pF pT pL op it isz wh dn (upd wk' r.length (nI a1)) (upd (upd me' a1 1) b1 (vp_nar .boolean 1)) sh ot) rfl ?_
              rw [show vp_nar .boolean 1 = 1 from rfl]
              refine aw_go 6 174 [some (.ref 0), some (.int (nI o)), some (.int 1), some (.int ((nI c) + 1)), some (.int (nI (r.length + 1))), some (.int (nI x))] [.int (nI x), .ref 2, .int (nI (r.length + 1)), .ref 22] (moH lf rt nx sz hg nu hd (nI n) nm le (nI ns) pl wa tx ts ou os wd ws tw tg o1 s1 atp rf rp pS pF pT pL op it isz wh dn (upd wk' r.length (nI a1)) (upd (upd me' a1 1) b1 1) sh ot) rfl ?_
              refine aw_ialdN rfl rfl ⟨by omega, by omega⟩ ?_
              rw [hrt1]
              refine aw_iastN rfl rfl ⟨by (try simp only [List.cons_append, List.length_cons, List.length_append] at hP1n); omega, by omega⟩ ?_
              refine aw_go 2 42 [some (.ref 0), some (.int (nI o)), some (.int 1), some (.int ((nI c) + 1)), some (.int ((nI (r.length + 1)) + 1)), some (.int (nI x))] [] (moH lf rt nx sz hg nu hd (nI n) nm le (nI ns) pl wa tx ts ou os wd ws tw tg o1 s1 atp rf rp pS pF pT pL op it isz wh dn (upd (upd wk' r.length (nI a1)) (r.length + 1) (nI b1)) (upd (upd me' a1 1) b1 1) sh ot) rfl ?_
              -- LOOP 42: [some (.ref 0), some (.int (nI o)), some (.int 1), some (.int ((nI c) + 1)), some (.int ((nI (r.length + 1)) + 1)), some (.int (nI x))] [] (moH lf rt nx sz hg nu hd (nI n) nm le (nI ns) pl wa tx ts ou os wd ws tw tg o1 s1 atp rf rp pS pF pT pL op it isz wh dn (upd (upd wk' r.length (nI a1)) (r.length + 1) (nI b1)) (upd (upd me' a1 1) b1 1) sh ot)
              have hnb : b1 ∉ a1 :: r ++ x :: D := (fun z => by have := (hP1.2.2.1 b1 (by omega)).1 z; rw [this] at h146; exact absurd h146 (by decide))
              exact aw_mask [true, true, true, true, true, false] (aw_eq (by simp only [nI_succ, Int32.add_zero, List.length_cons]; rfl) rfl rfl (ih2 (_, c + 1, (b1 :: a1 :: r).length, _) ⟨b1 :: a1 :: r, x :: D, _, _, (hP1.push (show b1 < n by omega) hnb), hI.step (W2 := b1 :: a1 :: r) (by rw [hT]; rfl) (fun y hy => by simp only [List.mem_append, List.mem_cons] at hy ⊢; rcases hy with (hy | hy) | hy <;> simp [hy]) (fun y hy => by simp only [List.mem_append, List.mem_cons] at hy; rcases hy with (hy | hy | hy) | hy | hy <;> first | (refine Or.inr ?_; rw [hy, hta1]; exact hAB.1) | (refine Or.inr ?_; rw [hy, htb1]; exact hAB.2) | (refine Or.inl ?_; simp [hy]; done)) (fun A2 B2 hT2 => by rw [hT] at hT2; injection hT2 with e1 e2; subst e1; subst e2; exact ⟨⟨a1, by simp, hta1⟩, ⟨b1, by simp, htb1⟩⟩), rfl, rfl, rfl⟩ (by show 2 * (n - (b1 :: a1 :: r ++ x :: D).length) + (b1 :: a1 :: r).length < 2 * (n - (x :: r ++ D).length) + (x :: r).length; have z9 := ((hP1.push (show b1 < n by omega) hnb)).le; simp only [List.cons_append, List.length_cons, List.length_append] at z9 hPn ⊢; omega)))
  · have hk2 : k < n := Nat.not_le.mp fun z => h7 (nI_le z (by omega))
    refine aw_go 4 16 [some (.ref 0), some (.int (nI o)), some (.int (rb b)), some (.int (nI k)), none, none] [.int 0, .int (nI k), .ref 23] (moH lf rt nx sz hg nu hd (nI n) nm le (nI ns) pl wa tx ts ou os wd ws tw tg o1 s1 atp rf rp pS pF pT pL op it isz wh dn wk me1 sh ot) rfl ?_
    refine aw_zastN rfl rfl ⟨by omega, by omega⟩ ?_
    refine aw_go 2 2 [some (.ref 0), some (.int (nI o)), some (.int (rb b)), some (.int ((nI k) + 1)), none, none] [] (moH lf rt nx sz hg nu hd (nI n) nm le (nI ns) pl wa tx ts ou os wd ws tw tg o1 s1 atp rf rp pS pF pT pL op it isz wh dn wk (upd me1 k (vp_nar .boolean 0)) sh ot) rfl ?_
    -- LOOP 2: [some (.ref 0), some (.int (nI o)), some (.int (rb b)), some (.int ((nI k) + 1)), none, none] [] (moH lf rt nx sz hg nu hd (nI n) nm le (nI ns) pl wa tx ts ou os wd ws tw tg o1 s1 atp rf rp pS pF pT pL op it isz wh dn wk (upd me1 k (vp_nar .boolean 0)) sh ot)
    exact aw_eq (by simp only [nI_succ]) rfl rfl (ih (k + 1, upd me1 k (vp_nar .boolean 0)) ⟨by show k + 1 ≤ n; omega, fun j hj => by dsimp only at hj ⊢; by_cases z : j = k; rw [z, pk_us]; rfl; rw [pk_un z]; exact hme j (by omega)⟩ (by show n - (k + 1) < n - k; omega))
