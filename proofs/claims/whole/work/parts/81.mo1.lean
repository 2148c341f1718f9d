/-! the model: cells; slot, spelled, added, pair, natural, symbol -/
def moH (lf rt nx sz hg : Nat → Int32) (nu : Nat → Int64) (hd : Nat → Int32) (cn : Int32) (nm le : Nat → Int32) (sy : Int32) (pl wa tx : Nat → Int32) (ts : Int32) (ou : Nat → Int32) (os : Int32) (wd : Nat → Int32) (ws : Int32) (tw : Nat → Int32) (tg : Int32) (o1 : Nat → Int32) (s1 atp rf rp : Int32) (pS pF pT pL : Nat → Int32) (op : Int32) (it : Nat → Int32) (isz wh dn : Int32) (wk me : Nat → Int32) (sh : Int32) (ot : Nat → Int32) : am_H := [.inr (7, [.ref 1, .ref 2, .ref 3, .ref 4, .ref 5, .ref 6, .ref 7, .int cn, .ref 8, .ref 9, .int sy, .ref 10, .ref 11, .ref 12, .int ts, .ref 13, .int os, .ref 14, .int ws, .ref 15, .int tg, .ref 16, .int s1, .int atp, .int rf, .int rp, .ref 17, .ref 18, .ref 19, .ref 20, .int op, .ref 21, .int isz, .int wh, .int dn, .ref 22, .ref 23, .int sh, .ref 24]), .inl (0, 16000, .inl lf), .inl (0, 16000, .inl rt), .inl (0, 16000, .inl nx), .inl (0, 16000, .inl sz), .inl (0, 16000, .inl hg), .inl (1, 16000, .inr (.inl nu)), .inl (0, 8192, .inl hd), .inl (0, 36000, .inl nm), .inl (0, 3000, .inl le), .inl (0, 8, .inl pl), .inl (0, 20, .inl wa), .inl (0, 3000, .inl tx), .inl (0, 2000, .inl ou), .inl (0, 12, .inl wd), .inl (0, 4000, .inl tw), .inl (0, 200, .inl o1), .inl (0, 40, .inl pS), .inl (0, 40, .inl pF), .inl (0, 40, .inl pT), .inl (0, 40, .inl pL), .inl (0, 1100, .inl it), .inl (0, 16001, .inl wk), .inl (3, 16000, .inl me), .inl (0, 200, .inl ot)]
theorem nI_m2 {j : Nat} (h : j < 2 ^ 31) : ¬ nI j = -2 := fun q => nI_pos h (by rw [q]; decide)
theorem fold_tk {α : Type} (f : α → Nat → α) (x : α) (w : List Nat) {k : Nat} (h : k < w.length) : (w.take (k + 1)).foldl f x = f ((w.take k).foldl f x) (w.getD k 0) := by
  rw [List.take_add_one, List.foldl_append, List.getElem?_eq_getElem h, List.getD_eq_getElem?_getD, List.getElem?_eq_getElem h]
  rfl
theorem li_ext {a b : List Nat} (h : a.length = b.length) (h2 : ∀ j, j < b.length → a.getD j 0 = b.getD j 0) : a = b := by
  apply List.ext_getElem h
  intro j h3 h4
  have := h2 j h4
  rw [List.getD_eq_getElem?_getD, List.getD_eq_getElem?_getD, List.getElem?_eq_getElem h3, List.getElem?_eq_getElem h4] at this
  exact this
theorem ch_R.cons {nx : Nat → Int32} {x : Int32} {l : List Nat} (h : ch_R nx x l) (hx : ¬ x = -1) : ∃ k r, l = k :: r ∧ x = nI k ∧ ch_R nx (nx k) r := by
  cases l with
  | nil => exact absurd h hx
  | cons k r => exact ⟨k, r, rfl, h.1, h.2⟩
theorem ch_R.nil {nx : Nat → Int32} {x : Int32} {l : List Nat} {n : Nat} (h : ch_R nx x l) (hl : ∀ k ∈ l, k < n) (hn : n ≤ 16000) (hx : x = -1) : l = [] := by
  cases l with
  | nil => rfl
  | cons k r => rw [h.1] at hx; exact absurd hx (nI_m1 (by have := hl k List.mem_cons_self; omega))
theorem mo_sl_q (l r : Int32) : ∃ q, q < 8192 ∧ mo_sl l r = nI q := and_8191 _
theorem mo_sp_q (w : List Nat) : ∃ q, q < 8192 ∧ mo_sp w = nI q := and_8191 _
theorem mo_in.fp {n ns : Nat} {lf rt nx hg : Nat → Int32} {nu : Nat → Int64} {hd nm le : Nat → Int32} {t : Nat → Tr} {sw : Nat → List Nat} {hh : Nat → Int32} (h : mo_in n ns lf rt nx hg nu hd nm le t sw hh) {k a b : Nat} (hk : k < n) (ha : a < n) (hb : b < n) : ((lf k = nI a ∧ rt k = nI b) ↔ t k = .op (t a) (t b)) ∧ (t k = .op (t a) (t b) → hh k = mo_sl (nI a) (nI b)) := by
  have hb16 := h.1.1
  obtain ⟨-, -, g⟩ := h.2.1 k hk
  rcases g with ⟨g1, v, -, -, g3, -⟩ | ⟨g1, s, -, -, g3, -⟩ | ⟨a2, b2, g1, g2, g3, g4, g5, g6⟩
  · exact ⟨⟨fun z => by rw [g1] at z; exact absurd z.1.symm (nI_m1 (by omega)), fun z => by rw [g3] at z; cases z⟩, fun z => by rw [g3] at z; cases z⟩
  · exact ⟨⟨fun z => by rw [g1] at z; exact absurd z.1.symm (nI_m2 (by omega)), fun z => by rw [g3] at z; cases z⟩, fun z => by rw [g3] at z; cases z⟩
  · have key : t k = .op (t a) (t b) → a2 = a ∧ b2 = b := fun z => by
      rw [g5] at z
      injection z with z1 z2
      exact ⟨h.2.2.2.1 a2 a (by omega) ha z1, h.2.2.2.1 b2 b (by omega) hb z2⟩
    refine ⟨⟨fun z => ?_, fun z => ?_⟩, fun z => ?_⟩
    · rw [g3, g4] at z
      rw [g5, nI_inj (by omega) (by omega) z.1, nI_inj (by omega) (by omega) z.2]
    · obtain ⟨rfl, rfl⟩ := key z
      exact ⟨g3, g4⟩
    · obtain ⟨rfl, rfl⟩ := key z
      exact g6
theorem mo_in.fn {n ns : Nat} {lf rt nx hg : Nat → Int32} {nu : Nat → Int64} {hd nm le : Nat → Int32} {t : Nat → Tr} {sw : Nat → List Nat} {hh : Nat → Int32} (h : mo_in n ns lf rt nx hg nu hd nm le t sw hh) {k v : Nat} (hk : k < n) (hv : v < 4611686018427387904) : ((lf k = -1 ∧ nu k = lN v) ↔ t k = tr_nat v) ∧ (t k = tr_nat v → hh k = mo_sn (lN v)) := by
  have hb16 := h.1.1
  obtain ⟨-, -, g⟩ := h.2.1 k hk
  rcases g with ⟨g1, v2, g2, g3, g4, g5⟩ | ⟨g1, s, -, -, g3, -⟩ | ⟨a2, b2, g1, g2, g3, g4, g5, g6⟩
  · refine ⟨⟨fun z => ?_, fun z => ?_⟩, fun z => ?_⟩
    · rw [g3] at z
      rw [g4, lN_inj (by omega) (by omega) z.2]
    · rw [g4] at z
      rw [← tr_nat_inj z]
      exact ⟨g1, g3⟩
    · rw [g4] at z
      rw [← tr_nat_inj z]
      exact g5
  · exact ⟨⟨fun z => by rw [g1] at z; exact absurd z.1 (by decide), fun z => by rw [g3] at z; exact absurd z.symm tr_ns⟩, fun z => by rw [g3] at z; exact absurd z.symm tr_ns⟩
  · exact ⟨⟨fun z => by rw [g3] at z; exact absurd z.1 (nI_m1 (by omega)), fun z => by rw [g5] at z; cases z⟩, fun z => by rw [g5] at z; cases z⟩
theorem mo_in.fs {n ns : Nat} {lf rt nx hg : Nat → Int32} {nu : Nat → Int64} {hd nm le : Nat → Int32} {t : Nat → Tr} {sw : Nat → List Nat} {hh : Nat → Int32} (h : mo_in n ns lf rt nx hg nu hd nm le t sw hh) {k : Nat} (hk : k < n) : (lf k = -2 → ∃ s, s < ns ∧ rt k = nI s ∧ mo_sy nm le s (sw s) ∧ t k = tr_sym (wc (sw s))) ∧ ∀ w, wv w → t k = tr_sym (wc w) → lf k = -2 ∧ hh k = mo_sp w := by
  have hb16 := h.1.1
  obtain ⟨-, -, g⟩ := h.2.1 k hk
  rcases g with ⟨g1, v2, g2, g3, g4, g5⟩ | ⟨g1, s, g2, g3, g4, g5⟩ | ⟨a2, b2, g1, g2, g3, g4, g5, g6⟩
  · exact ⟨fun z => by rw [g1] at z; exact absurd z (by decide), fun w _ z => by rw [g4] at z; exact absurd z tr_ns⟩
  · refine ⟨fun _ => ⟨s, g2, g3, h.2.2.1 s g2, g4⟩, fun w hw z => ?_⟩
    rw [g4] at z
    rw [← wc_inj (h.2.2.1 s g2).1 hw (tr_sym_inj z)]
    exact ⟨g1, g5⟩
  · exact ⟨fun z => by rw [g3] at z; exact absurd z (nI_m2 (by omega)), fun w _ z => by rw [g5] at z; cases z⟩
theorem mo_dep {da db : Nat} (h1 : da < 20000) (h2 : db < 20000) : (nI da ≤ nI db → (1 : Int32) + nI db = nI (1 + max da db)) ∧ (¬ nI da ≤ nI db → (1 : Int32) + nI da = nI (1 + max da db)) := by
  refine ⟨fun z => ?_, fun z => ?_⟩
  · have := (nI_leI (by omega) (by omega)).mp z
    rw [show max da db = db by omega]
    exact nI_add 1 db
  · have : ¬ da ≤ db := fun y => z (nI_le y (by omega))
    rw [show max da db = da by omega]
    exact nI_add 1 da
theorem mo_l0 {l : Int32} (h : l < 0) : ¬ 0 ≤ l := by
  rw [Int32.le_iff_toInt_le]
  rw [Int32.lt_iff_toInt_lt] at h
  have : (0 : Int32).toInt = 0 := by decide
  omega
theorem nI_0le {a : Nat} (h : a < 2 ^ 31) : 0 ≤ nI a := nI_le (a := 0) (Nat.zero_le _) h
def wd_R (wd : Nat → Int32) (w : List Nat) : Prop := w.length ≤ 12 ∧ ∀ k, k < w.length → wd k = nI (w.getD k 0)
theorem mo_in.app {n ns : Nat} {lf rt nx hg : Nat → Int32} {nu : Nat → Int64} {hd nm le : Nat → Int32} {t : Nat → Tr} {sw : Nat → List Nat} {hh : Nat → Int32} (h : mo_in n ns lf rt nx hg nu hd nm le t sw hh) {w : List Nat} (hw : wv w) {nm2 : Nat → Int32} (h1 : ∀ j, j < w.length → nm2 (12 * ns + j) = nI (w.getD j 0)) (h2 : ∀ i, i < 12 * ns → nm2 i = nm i) : ∀ s, s < ns + 1 → mo_sy nm2 (upd le ns (nI w.length)) s (va_up sw ns w s) := by
  intro s hs
  by_cases z : s = ns
  · subst z
    rw [va_up_self]
    exact ⟨hw, pk_us, h1⟩
  · rw [va_up_ne _ _ z]
    obtain ⟨g1, g2, g3⟩ := h.2.2.1 s (by omega)
    have := g1.2.1
    exact ⟨g1, by rw [pk_un z]; exact g2, fun k hk => by rw [h2 _ (by omega)]; exact g3 k hk⟩
theorem sg_at_lt {c : Nat} (h : sg_at c = true) : c < 128 := by
  obtain ⟨h1, h2, h3⟩ := sg_j_bd h
  rw [← h3]
  exact (am_ch_all 0 (by omega) (sg_j c) h2).2.1
theorem getD_all {P : Nat → Prop} {w : List Nat} (h : ∀ c ∈ w, P c) {k : Nat} (hk : k < w.length) : P (w.getD k 0) := by
  rw [List.getD_eq_getElem?_getD, List.getElem?_eq_getElem hk]
  exact h _ (List.getElem_mem hk)
theorem wi_eq {nm le wd : Nat → Int32} {s k : Nat} {u w : List Nat} (h1 : u.length = w.length) (hu : mo_sy nm le s u) (hw : wd_R wd w) (hwv : wv w) (hk : k < w.length) (h : nm (12 * s + k) = wd k) : u.getD k 0 = w.getD k 0 := by
  rw [hu.2.2 k (by omega), hw.2 k hk] at h
  have a := sg_at_lt (getD_all hwv.2.2 hk)
  have b := sg_at_lt (getD_all hu.1.2.2 (k := k) (by omega))
  exact nI_inj (by omega) (by omega) h
set_option maxHeartbeats 2000000 in
set_option maxRecDepth 100000 in
theorem c_Mo_slot (l : Launch) (a b : Int32) : Con l y_Mo_slot M_Mo_slot 0 0 [.int a, .int b] ([] : am_H) 0 0 0 0 (fun r h' => r = some (.int (mo_sl a b)) ∧ h' = []) := by
  refine Con.ent ok_Mo_slot (by decide +kernel) rfl ?_
  intro pA eA sA mA argsA belowA methA cA GA μA
  refine aw_go 13 19 [some (.int a), some (.int b)] [.int (((Int32.toUInt32 (((a * 40503) + (b * 30011)) + 7) >>> (Int32.toUInt32 2 &&& Int32.toUInt32 31)).toInt32) &&& 8191)] [] rfl ?_
  exact aw_iret rfl rfl rfl ⟨rfl, rfl⟩ rfl (Nat.le_refl _) (Nat.le_refl _) -- [.int (((Int32.toUInt32 (((a * 40503) + (b * 30011)) + 7) >>> (Int32.toUInt32 2 &&& Int32.toUInt32 31)).toInt32) &&& 8191)] []
set_option maxHeartbeats 2000000 in
set_option maxRecDepth 100000 in
theorem c_Mo_spelled (l : Launch) (lf rt nx sz hg : Nat → Int32) (nu : Nat → Int64) (hd : Nat → Int32) (cn : Int32) (nm le : Nat → Int32) (sy : Int32) (pl wa tx : Nat → Int32) (ts : Int32) (ou : Nat → Int32) (os : Int32) (wd tw : Nat → Int32) (tg : Int32) (o1 : Nat → Int32) (s1 atp rf rp : Int32) (pS pF pT pL : Nat → Int32) (op : Int32) (it : Nat → Int32) (isz wh dn : Int32) (wk me : Nat → Int32) (sh : Int32) (ot : Nat → Int32) (w : List Nat) (hw : wd_R wd w) : Con l y_Mo_spelled M_Mo_spelled 0 0 [.ref 0, .int 0, .int (nI w.length), .int 1] (moH lf rt nx sz hg nu hd cn nm le sy pl wa tx ts ou os wd (nI w.length) tw tg o1 s1 atp rf rp pS pF pT pL op it isz wh dn wk me sh ot) 25 0 0 0 (fun r h' => r = some (.int (mo_sp w)) ∧ h' = moH lf rt nx sz hg nu hd cn nm le sy pl wa tx ts ou os wd (nI w.length) tw tg o1 s1 atp rf rp pS pF pT pL op it isz wh dn wk me sh ot) := by
  have hw12 := hw.1
  refine Con.ent ok_Mo_spelled (by decide +kernel) rfl ?_
  intro pA eA sA mA argsA belowA methA cA GA μA
  refine aw_go 4 6 [some (.ref 0), some (.int 0), some (.int (nI w.length)), some (.int 1), some (.int 5), some (.int 0)] [] (moH lf rt nx sz hg nu hd cn nm le sy pl wa tx ts ou os wd (nI w.length) tw tg o1 s1 atp rf rp pS pF pT pL op it isz wh dn wk me sh ot) rfl ?_
  refine aw_loop (σ := Nat) (fun y => y ≤ w.length) (fun y => w.length - y) (fun y => [some (.ref 0), some (.int 0), some (.int (nI w.length)), some (.int 1), some (.int ((w.take y).foldl (fun h c => (131 * h) + nI c) 5)), some (.int (nI y))]) (fun _ => []) (fun _ => moH lf rt nx sz hg nu hd cn nm le sy pl wa tx ts ou os wd (nI w.length) tw tg o1 s1 atp rf rp pS pF pT pL op it isz wh dn wk me sh ot) ?_ 0 (Nat.zero_le _)
  intro k hk ih
  generalize hH : (w.take k).foldl (fun h c => (131 * h) + nI c) 5 = H
  refine aw_go 2 9 [some (.ref 0), some (.int 0), some (.int (nI w.length)), some (.int 1), some (.int H), some (.int (nI k))] [.int (nI w.length), .int (nI k)] (moH lf rt nx sz hg nu hd cn nm le sy pl wa tx ts ou os wd (nI w.length) tw tg o1 s1 atp rf rp pS pF pT pL op it isz wh dn wk me sh ot) rfl ?_
  refine aw_cmp_ge rfl (fun h9 => ?_) (fun h9 => ?_)
  · refine aw_go 3 56 [some (.ref 0), some (.int 0), some (.int (nI w.length)), some (.int 1), some (.int H), some (.int (nI k))] [.int (H &&& 8191)] (moH lf rt nx sz hg nu hd cn nm le sy pl wa tx ts ou os wd (nI w.length) tw tg o1 s1 atp rf rp pS pF pT pL op it isz wh dn wk me sh ot) rfl ?_
    exact aw_iret rfl rfl rfl ⟨by rw [← hH, show k = w.length from (by have h9 : ¬ k < w.length := (fun z => nI_ge z (by have := hw.1; omega) h9); omega), List.take_length]; rfl, rfl⟩ rfl (Nat.le_refl _) (Nat.le_refl _) -- [.int (H &&& 8191)] (moH lf rt nx sz hg nu hd cn nm le sy pl wa tx ts ou os wd (nI w.length) tw tg o1 s1 atp rf rp pS pF pT pL op it isz wh dn wk me sh ot)
  · have hk2 : k < w.length := Nat.not_le.mp fun z => h9 (nI_le z (by omega))
    refine aw_go 4 19 [some (.ref 0), some (.int 0), some (.int (nI w.length)), some (.int 1), some (.int H), some (.int (nI k))] [.int 1, .int (131 * H)] (moH lf rt nx sz hg nu hd cn nm le sy pl wa tx ts ou os wd (nI w.length) tw tg o1 s1 atp rf rp pS pF pT pL op it isz wh dn wk me sh ot) rfl ?_
    refine aw_if_eq rfl (fun h19 => absurd h19 (by decide)) (fun h19 => ?_)
    refine aw_go 3 28 [some (.ref 0), some (.int 0), some (.int (nI w.length)), some (.int 1), some (.int H), some (.int (nI k))] [.int (nI k), .ref 14, .int (131 * H)] (moH lf rt nx sz hg nu hd cn nm le sy pl wa tx ts ou os wd (nI w.length) tw tg o1 s1 atp rf rp pS pF pT pL op it isz wh dn wk me sh ot) rfl ?_
    refine aw_ialdN rfl rfl ⟨by omega, by omega⟩ ?_
    refine aw_go 5 6 [some (.ref 0), some (.int 0), some (.int (nI w.length)), some (.int 1), some (.int ((131 * H) + (wd k))), some (.int ((nI k) + 1))] [] (moH lf rt nx sz hg nu hd cn nm le sy pl wa tx ts ou os wd (nI w.length) tw tg o1 s1 atp rf rp pS pF pT pL op it isz wh dn wk me sh ot) rfl ?_
    -- LOOP 6: [some (.ref 0), some (.int 0), some (.int (nI w.length)), some (.int 1), some (.int ((131 * H) + (wd k))), some (.int ((nI k) + 1))] [] (moH lf rt nx sz hg nu hd cn nm le sy pl wa tx ts ou os wd (nI w.length) tw tg o1 s1 atp rf rp pS pF pT pL op it isz wh dn wk me sh ot)
    exact aw_eq (by rw [fold_tk _ _ w hk2, hH, hw.2 k hk2]; simp only [nI_succ]) rfl rfl (ih (k + 1) (by omega) (by omega))
set_option maxHeartbeats 2000000 in
set_option maxRecDepth 100000 in
theorem c_Mo_isWord (l : Launch) (lf rt nx sz hg : Nat → Int32) (nu : Nat → Int64) (hd : Nat → Int32) (cn : Int32) (nm le : Nat → Int32) (sy : Int32) (pl wa tx : Nat → Int32) (ts : Int32) (ou : Nat → Int32) (os : Int32) (wd tw : Nat → Int32) (tg : Int32) (o1 : Nat → Int32) (s1 atp rf rp : Int32) (pS pF pT pL : Nat → Int32) (op : Int32) (it : Nat → Int32) (isz wh dn : Int32) (wk me : Nat → Int32) (sh : Int32) (ot : Nat → Int32) (w u : List Nat) (s : Nat) (hs : s < 3000) (hw : wd_R wd w) (hwv : wv w) (hu : mo_sy nm le s u) : Con l y_Mo_isWord M_Mo_isWord 0 0 [.ref 0, .int (nI s)] (moH lf rt nx sz hg nu hd cn nm le sy pl wa tx ts ou os wd (nI w.length) tw tg o1 s1 atp rf rp pS pF pT pL op it isz wh dn wk me sh ot) 25 0 0 0 (fun r h' => ((u = w ∧ r = some (.int 1)) ∨ (u ≠ w ∧ r = some (.int 0))) ∧ h' = moH lf rt nx sz hg nu hd cn nm le sy pl wa tx ts ou os wd (nI w.length) tw tg o1 s1 atp rf rp pS pF pT pL op it isz wh dn wk me sh ot) := by
  have hw12 := hw.1
  have hu11 := hu.1.2.1
  refine Con.ent ok_Mo_isWord (by decide +kernel) rfl ?_
  intro pA eA sA mA argsA belowA methA cA GA μA
  have LP : ∀ b : Bool, (b = true ↔ u.length = w.length) → AW pA l eA { frames := 0, cells := 0, slots := 0, locals := 0 } sA mA argsA belowA methA cA (am_Q belowA argsA sA GA μA (moH lf rt nx sz hg nu hd cn nm le sy pl wa tx ts ou os wd (nI w.length) tw tg o1 s1 atp rf rp pS pF pT pL op it isz wh dn wk me sh ot) 25 0 (fun r h' => ((u = w ∧ r = some (.int 1)) ∨ (u ≠ w ∧ r = some (.int 0))) ∧ h' = moH lf rt nx sz hg nu hd cn nm le sy pl wa tx ts ou os wd (nI w.length) tw tg o1 s1 atp rf rp pS pF pT pL op it isz wh dn wk me sh ot) 0 0) (va_A (am_W GA.2 μA 0 (moH lf rt nx sz hg nu hd cn nm le sy pl wa tx ts ou os wd (nI w.length) tw tg o1 s1 atp rf rp pS pF pT pL op it isz wh dn wk me sh ot)) sA.heap.size) sA.heap GA μA 25 M_Mo_isWord 0 0 21 [some (.ref 0), some (.int (nI s)), some (.int (rb b)), some (.int (nI 0))] [] (moH lf rt nx sz hg nu hd cn nm le sy pl wa tx ts ou os wd (nI w.length) tw tg o1 s1 atp rf rp pS pF pT pL op it isz wh dn wk me sh ot) := by
    intro b0 hb0
    refine aw_loop (σ := Nat × Bool) (fun y => y.1 ≤ w.length ∧ (y.2 = true ↔ u.length = w.length ∧ ∀ j, j < y.1 → u.getD j 0 = w.getD j 0)) (fun y => w.length - y.1) (fun y => [some (.ref 0), some (.int (nI s)), some (.int (rb y.2)), some (.int (nI y.1))]) (fun _ => []) (fun _ => moH lf rt nx sz hg nu hd cn nm le sy pl wa tx ts ou os wd (nI w.length) tw tg o1 s1 atp rf rp pS pF pT pL op it isz wh dn wk me sh ot) ?_ (0, b0) ⟨Nat.zero_le _, by dsimp only; rw [hb0]; exact ⟨fun z => ⟨z, fun j hj => absurd hj (Nat.not_lt_zero j)⟩, fun z => z.1⟩⟩
    rintro ⟨k, b⟩ ⟨hk, hb⟩ ih
    dsimp only at hk hb ih ⊢
    refine aw_go 3 26 [some (.ref 0), some (.int (nI s)), some (.int (rb b)), some (.int (nI k))] [.int (nI w.length), .int (nI k)] (moH lf rt nx sz hg nu hd cn nm le sy pl wa tx ts ou os wd (nI w.length) tw tg o1 s1 atp rf rp pS pF pT pL op it isz wh dn wk me sh ot) rfl ?_
    refine aw_cmp_ge rfl (fun h26 => ?_) (fun h26 => ?_)
    · refine aw_go 1 66 [some (.ref 0), some (.int (nI s)), some (.int (rb b)), some (.int (nI k))] [.int (rb b)] (moH lf rt nx sz hg nu hd cn nm le sy pl wa tx ts ou os wd (nI w.length) tw tg o1 s1 atp rf rp pS pF pT pL op it isz wh dn wk me sh ot) rfl ?_
      exact aw_iret rfl (by first | rfl | decide | (cases b <;> decide)) rfl (by have hke : k = w.length := (by have h9 : ¬ k < w.length := (fun z => nI_ge z (by omega) h26); omega); subst hke; cases b with
      | true => exact ⟨Or.inl ⟨li_ext (hb.mp rfl).1 (hb.mp rfl).2, rfl⟩, rfl⟩
      | false => exact ⟨Or.inr ⟨fun z => Bool.noConfusion (hb.mpr ⟨by rw [z], fun j _ => by rw [z]⟩), rfl⟩, rfl⟩) rfl (Nat.le_refl _) (Nat.le_refl _) -- [.int (rb b)] (moH lf rt nx sz hg nu hd cn nm le sy pl wa tx ts ou os wd (nI w.length) tw tg o1 s1 atp rf rp pS pF pT pL op it isz wh dn wk me sh ot)
    · have hk2 : k < w.length := Nat.not_le.mp fun z => h26 (nI_le z (by omega))
      refine aw_go 1 30 [some (.ref 0), some (.int (nI s)), some (.int (rb b)), some (.int (nI k))] [.int (rb b)] (moH lf rt nx sz hg nu hd cn nm le sy pl wa tx ts ou os wd (nI w.length) tw tg o1 s1 atp rf rp pS pF pT pL op it isz wh dn wk me sh ot) rfl ?_
      cases b
      · show AW _ _ _ _ _ _ _ _ _ _ _ _ _ _ _ _ _ _ _ 30 _ [.int 0] _
        refine aw_if_eq rfl (fun h30 => ?_) (fun h30 => absurd h30 (by decide))
        refine aw_go 1 66 [some (.ref 0), some (.int (nI s)), some (.int 0), some (.int (nI k))] [.int 0] (moH lf rt nx sz hg nu hd cn nm le sy pl wa tx ts ou os wd (nI w.length) tw tg o1 s1 atp rf rp pS pF pT pL op it isz wh dn wk me sh ot) rfl ?_
        exact aw_iret rfl (by first | rfl | decide | (cases b <;> decide)) rfl ⟨Or.inr ⟨fun z => Bool.noConfusion (hb.mpr ⟨by rw [z], fun j _ => by rw [z]⟩), rfl⟩, rfl⟩ rfl (Nat.le_refl _) (Nat.le_refl _) -- [.int 0] (moH lf rt nx sz hg nu hd cn nm le sy pl wa tx ts ou os wd (nI w.length) tw tg o1 s1 atp rf rp pS pF pT pL op it isz wh dn wk me sh ot)
      · show AW _ _ _ _ _ _ _ _ _ _ _ _ _ _ _ _ _ _ _ 30 _ [.int 1] _
        refine aw_if_eq rfl (fun h30 => absurd h30 (by decide)) (fun h30 => ?_)
        refine aw_go 7 43 [some (.ref 0), some (.int (nI s)), some (.int 1), some (.int (nI k))] [.int ((12 * (nI s)) + (nI k)), .ref 8] (moH lf rt nx sz hg nu hd cn nm le sy pl wa tx ts ou os wd (nI w.length) tw tg o1 s1 atp rf rp pS pF pT pL op it isz wh dn wk me sh ot) rfl ?_
        rw [show (12 : Int32) * nI s = nI (12 * s) from pk_mul 12 s, nI_add]
        refine aw_ialdN rfl rfl ⟨by omega, by omega⟩ ?_
        refine aw_go 3 49 [some (.ref 0), some (.int (nI s)), some (.int 1), some (.int (nI k))] [.int (nI k), .ref 14, .int (nm (12 * s + k))] (moH lf rt nx sz hg nu hd cn nm le sy pl wa tx ts ou os wd (nI w.length) tw tg o1 s1 atp rf rp pS pF pT pL op it isz wh dn wk me sh ot) rfl ?_
        refine aw_ialdN rfl rfl ⟨by omega, by omega⟩ ?_
        refine aw_cmp_ne rfl (fun h50 => ?_) (fun h50 => ?_)
        · refine aw_go 4 21 [some (.ref 0), some (.int (nI s)), some (.int 0), some (.int ((nI k) + 1))] [] (moH lf rt nx sz hg nu hd cn nm le sy pl wa tx ts ou os wd (nI w.length) tw tg o1 s1 atp rf rp pS pF pT pL op it isz wh dn wk me sh ot) rfl ?_
          -- LOOP 21: [some (.ref 0), some (.int (nI s)), some (.int 0), some (.int ((nI k) + 1))] [] (moH lf rt nx sz hg nu hd cn nm le sy pl wa tx ts ou os wd (nI w.length) tw tg o1 s1 atp rf rp pS pF pT pL op it isz wh dn wk me sh ot)
          exact aw_eq (by simp only [nI_succ]; rfl) rfl rfl (ih (k + 1, false) ⟨by show k + 1 ≤ _; omega, ⟨(fun z => nomatch z), fun z => absurd (by rw [hu.2.2 k (by rw [z.1]; exact hk2), z.2 k (Nat.lt_succ_self _), hw.2 k hk2]) h50⟩⟩ (by show w.length - (k + 1) < w.length - k; omega))
        · refine aw_go 5 21 [some (.ref 0), some (.int (nI s)), some (.int 1), some (.int ((nI k) + 1))] [] (moH lf rt nx sz hg nu hd cn nm le sy pl wa tx ts ou os wd (nI w.length) tw tg o1 s1 atp rf rp pS pF pT pL op it isz wh dn wk me sh ot) rfl ?_
          -- LOOP 21: [some (.ref 0), some (.int (nI s)), some (.int 1), some (.int ((nI k) + 1))] [] (moH lf rt nx sz hg nu hd cn nm le sy pl wa tx ts ou os wd (nI w.length) tw tg o1 s1 atp rf rp pS pF pT pL op it isz wh dn wk me sh ot)
          exact aw_eq (by simp only [nI_succ]; rfl) rfl rfl (ih (k + 1, true) ⟨by show k + 1 ≤ _; omega, ⟨fun _ => ⟨(hb.mp rfl).1, fun j hj => by rcases Nat.lt_or_ge j k with z | z; exact (hb.mp rfl).2 j z; rw [show j = k from (by have : j < k + 1 := hj; omega)]; exact wi_eq (hb.mp rfl).1 hu hw hwv hk2 h50⟩, fun _ => rfl⟩⟩ (by show w.length - (k + 1) < w.length - k; omega))
  refine aw_go 3 5 [some (.ref 0), some (.int (nI s)), none, none] [.int (nI s), .ref 9] (moH lf rt nx sz hg nu hd cn nm le sy pl wa tx ts ou os wd (nI w.length) tw tg o1 s1 atp rf rp pS pF pT pL op it isz wh dn wk me sh ot) rfl ?_
  refine aw_ialdN rfl rfl ⟨by omega, by omega⟩ ?_
  refine aw_go 2 10 [some (.ref 0), some (.int (nI s)), none, none] [.int (nI w.length), .int (le s)] (moH lf rt nx sz hg nu hd cn nm le sy pl wa tx ts ou os wd (nI w.length) tw tg o1 s1 atp rf rp pS pF pT pL op it isz wh dn wk me sh ot) rfl ?_
  refine aw_cmp_ne rfl (fun h10 => ?_) (fun h10 => ?_)
  · refine aw_go 4 21 [some (.ref 0), some (.int (nI s)), some (.int 0), some (.int 0)] [] (moH lf rt nx sz hg nu hd cn nm le sy pl wa tx ts ou os wd (nI w.length) tw tg o1 s1 atp rf rp pS pF pT pL op it isz wh dn wk me sh ot) rfl ?_
    -- LOOP 21: [some (.ref 0), some (.int (nI s)), some (.int 0), some (.int 0)] [] (moH lf rt nx sz hg nu hd cn nm le sy pl wa tx ts ou os wd (nI w.length) tw tg o1 s1 atp rf rp pS pF pT pL op it isz wh dn wk me sh ot)
    exact LP false ⟨(fun z => nomatch z), fun z => absurd (by rw [hu.2.1, z]) h10⟩
  · refine aw_go 5 21 [some (.ref 0), some (.int (nI s)), some (.int 1), some (.int 0)] [] (moH lf rt nx sz hg nu hd cn nm le sy pl wa tx ts ou os wd (nI w.length) tw tg o1 s1 atp rf rp pS pF pT pL op it isz wh dn wk me sh ot) rfl ?_
    -- LOOP 21: [some (.ref 0), some (.int (nI s)), some (.int 1), some (.int 0)] [] (moH lf rt nx sz hg nu hd cn nm le sy pl wa tx ts ou os wd (nI w.length) tw tg o1 s1 atp rf rp pS pF pT pL op it isz wh dn wk me sh ot)
    exact LP true ⟨fun _ => nI_inj (by omega) (by omega) (by rw [← hu.2.1]; exact h10), fun _ => rfl⟩
set_option maxHeartbeats 2000000 in
set_option maxRecDepth 100000 in
theorem c_Mo_added_a (l : Launch) (lf rt nx sz hg : Nat → Int32) (nu : Nat → Int64) (hd nm le : Nat → Int32) (sy : Int32) (pl wa tx : Nat → Int32) (ts : Int32) (ou : Nat → Int32) (os : Int32) (wd : Nat → Int32) (ws : Int32) (tw : Nat → Int32) (tg : Int32) (o1 : Nat → Int32) (s1 atp rf rp : Int32) (pS pF pT pL : Nat → Int32) (op : Int32) (it : Nat → Int32) (isz wh dn : Int32) (wk me : Nat → Int32) (sh : Int32) (ot : Nat → Int32) (n q : Nat) (x y : Int32) (hx : x < 0) (hq : q < 8192) (hn : n < 16000) : Con l y_Mo_added M_Mo_added 0 0 [.ref 0, .int x, .int y, .int (nI q)] (moH lf rt nx sz hg nu hd (nI n) nm le sy pl wa tx ts ou os wd ws tw tg o1 s1 atp rf rp pS pF pT pL op it isz wh dn wk me sh ot) 25 0 0 0 (fun r h' => r = some (.int (nI n)) ∧ h' = moH (upd lf n (x)) (upd rt n (y)) (upd nx n (hd q)) (upd sz n 0) (upd hg n (0)) nu (upd hd q (nI n)) (nI (n + 1)) nm le sy pl wa tx ts ou os wd ws tw tg o1 s1 atp rf rp pS pF pT pL op it isz wh dn wk me sh ot) := by
  refine Con.ent ok_Mo_added (by decide +kernel) rfl ?_
  intro pA eA sA mA argsA belowA methA cA GA μA
  refine aw_go 5 9 [some (.ref 0), some (.int x), some (.int y), some (.int (nI q))] [.int x, .int (nI n), .ref 1] (moH lf rt nx sz hg nu hd (nI n) nm le sy pl wa tx ts ou os wd ws tw tg o1 s1 atp rf rp pS pF pT pL op it isz wh dn wk me sh ot) rfl ?_
  refine aw_iastN rfl rfl ⟨by omega, by omega⟩ ?_
  refine aw_go 5 19 [some (.ref 0), some (.int x), some (.int y), some (.int (nI q))] [.int y, .int (nI n), .ref 2] (moH (upd lf n x) rt nx sz hg nu hd (nI n) nm le sy pl wa tx ts ou os wd ws tw tg o1 s1 atp rf rp pS pF pT pL op it isz wh dn wk me sh ot) rfl ?_
  refine aw_iastN rfl rfl ⟨by omega, by omega⟩ ?_
  refine aw_go 7 33 [some (.ref 0), some (.int x), some (.int y), some (.int (nI q))] [.int (nI q), .ref 7, .int (nI n), .ref 3] (moH (upd lf n x) (upd rt n y) nx sz hg nu hd (nI n) nm le sy pl wa tx ts ou os wd ws tw tg o1 s1 atp rf rp pS pF pT pL op it isz wh dn wk me sh ot) rfl ?_
  refine aw_ialdN rfl rfl ⟨by omega, by omega⟩ ?_
  refine aw_iastN rfl rfl ⟨by omega, by omega⟩ ?_
  refine aw_go 5 44 [some (.ref 0), some (.int x), some (.int y), some (.int (nI q))] [.int 0, .int (nI n), .ref 4] (moH (upd lf n x) (upd rt n y) (upd nx n (hd q)) sz hg nu hd (nI n) nm le sy pl wa tx ts ou os wd ws tw tg o1 s1 atp rf rp pS pF pT pL op it isz wh dn wk me sh ot) rfl ?_
  refine aw_iastN rfl rfl ⟨by omega, by omega⟩ ?_
  refine aw_go 5 54 [some (.ref 0), some (.int x), some (.int y), some (.int (nI q))] [.int x, .int (nI n), .ref 5] (moH (upd lf n x) (upd rt n y) (upd nx n (hd q)) (upd sz n 0) hg nu hd (nI n) nm le sy pl wa tx ts ou os wd ws tw tg o1 s1 atp rf rp pS pF pT pL op it isz wh dn wk me sh ot) rfl ?_
  refine aw_if_ge rfl (fun h54 => absurd h54 (mo_l0 hx)) (fun h54 => ?_)
  refine aw_go 2 93 [some (.ref 0), some (.int x), some (.int y), some (.int (nI q))] [.int 0, .int (nI n), .ref 5] (moH (upd lf n x) (upd rt n y) (upd nx n (hd q)) (upd sz n 0) hg nu hd (nI n) nm le sy pl wa tx ts ou os wd ws tw tg o1 s1 atp rf rp pS pF pT pL op it isz wh dn wk me sh ot) rfl ?_
  refine aw_iastN rfl rfl ⟨by omega, by omega⟩ ?_
  refine aw_go 5 103 [some (.ref 0), some (.int x), some (.int y), some (.int (nI q))] [.int (nI n), .int (nI q), .ref 7] (moH (upd lf n x) (upd rt n y) (upd nx n (hd q)) (upd sz n 0) (upd hg n 0) nu hd (nI n) nm le sy pl wa tx ts ou os wd ws tw tg o1 s1 atp rf rp pS pF pT pL op it isz wh dn wk me sh ot) rfl ?_
  refine aw_iastN rfl rfl ⟨by omega, by omega⟩ ?_
  refine aw_go 10 120 [some (.ref 0), some (.int x), some (.int y), some (.int (nI q))] [.int (((nI n) + 1) - 1)] (moH (upd lf n x) (upd rt n y) (upd nx n (hd q)) (upd sz n 0) (upd hg n 0) nu (upd hd q (nI n)) ((nI n) + 1) nm le sy pl wa tx ts ou os wd ws tw tg o1 s1 atp rf rp pS pF pT pL op it isz wh dn wk me sh ot) rfl ?_
  exact aw_iret rfl rfl rfl ⟨by rw [← nI_succ, nI_pred], by rw [nI_succ]⟩ rfl (Nat.le_refl _) (Nat.le_refl _) -- [.int (((nI n) + 1) - 1)] (moH (upd lf n x) (upd rt n y) (upd nx n (hd q)) (upd sz n 0) (upd hg n 0) nu (upd hd q (nI n)) ((nI n) + 1) nm le sy pl wa tx ts ou os wd ws tw tg o1 s1 atp rf rp pS pF pT pL op it isz wh dn wk me sh ot)
set_option maxHeartbeats 2000000 in
set_option maxRecDepth 100000 in
theorem c_Mo_added_p (l : Launch) (lf rt nx sz hg : Nat → Int32) (nu : Nat → Int64) (hd nm le : Nat → Int32) (sy : Int32) (pl wa tx : Nat → Int32) (ts : Int32) (ou : Nat → Int32) (os : Int32) (wd : Nat → Int32) (ws : Int32) (tw : Nat → Int32) (tg : Int32) (o1 : Nat → Int32) (s1 atp rf rp : Int32) (pS pF pT pL : Nat → Int32) (op : Int32) (it : Nat → Int32) (isz wh dn : Int32) (wk me : Nat → Int32) (sh : Int32) (ot : Nat → Int32) (n q a b da db : Nat) (ha : a < n) (hb : b < n) (hda : da < 20000 ∧ hg a = nI da) (hdb : db < 20000 ∧ hg b = nI db) (hq : q < 8192) (hn : n < 16000) : Con l y_Mo_added M_Mo_added 0 0 [.ref 0, .int (nI a), .int (nI b), .int (nI q)] (moH lf rt nx sz hg nu hd (nI n) nm le sy pl wa tx ts ou os wd ws tw tg o1 s1 atp rf rp pS pF pT pL op it isz wh dn wk me sh ot) 25 0 0 0 (fun r h' => r = some (.int (nI n)) ∧ h' = moH (upd lf n (nI a)) (upd rt n (nI b)) (upd nx n (hd q)) (upd sz n 0) (upd hg n (nI (1 + max da db))) nu (upd hd q (nI n)) (nI (n + 1)) nm le sy pl wa tx ts ou os wd ws tw tg o1 s1 atp rf rp pS pF pT pL op it isz wh dn wk me sh ot) := by
  refine Con.ent ok_Mo_added (by decide +kernel) rfl ?_
  intro pA eA sA mA argsA belowA methA cA GA μA
  refine aw_go 5 9 [some (.ref 0), some (.int (nI a)), some (.int (nI b)), some (.int (nI q))] [.int (nI a), .int (nI n), .ref 1] (moH lf rt nx sz hg nu hd (nI n) nm le sy pl wa tx ts ou os wd ws tw tg o1 s1 atp rf rp pS pF pT pL op it isz wh dn wk me sh ot) rfl ?_
  refine aw_iastN rfl rfl ⟨by omega, by omega⟩ ?_
  refine aw_go 5 19 [some (.ref 0), some (.int (nI a)), some (.int (nI b)), some (.int (nI q))] [.int (nI b), .int (nI n), .ref 2] (moH (upd lf n (nI a)) rt nx sz hg nu hd (nI n) nm le sy pl wa tx ts ou os wd ws tw tg o1 s1 atp rf rp pS pF pT pL op it isz wh dn wk me sh ot) rfl ?_
  refine aw_iastN rfl rfl ⟨by omega, by omega⟩ ?_
  refine aw_go 7 33 [some (.ref 0), some (.int (nI a)), some (.int (nI b)), some (.int (nI q))] [.int (nI q), .ref 7, .int (nI n), .ref 3] (moH (upd lf n (nI a)) (upd rt n (nI b)) nx sz hg nu hd (nI n) nm le sy pl wa tx ts ou os wd ws tw tg o1 s1 atp rf rp pS pF pT pL op it isz wh dn wk me sh ot) rfl ?_
  refine aw_ialdN rfl rfl ⟨by omega, by omega⟩ ?_
  refine aw_iastN rfl rfl ⟨by omega, by omega⟩ ?_
  refine aw_go 5 44 [some (.ref 0), some (.int (nI a)), some (.int (nI b)), some (.int (nI q))] [.int 0, .int (nI n), .ref 4] (moH (upd lf n (nI a)) (upd rt n (nI b)) (upd nx n (hd q)) sz hg nu hd (nI n) nm le sy pl wa tx ts ou os wd ws tw tg o1 s1 atp rf rp pS pF pT pL op it isz wh dn wk me sh ot) rfl ?_
  refine aw_iastN rfl rfl ⟨by omega, by omega⟩ ?_
  refine aw_go 5 54 [some (.ref 0), some (.int (nI a)), some (.int (nI b)), some (.int (nI q))] [.int (nI a), .int (nI n), .ref 5] (moH (upd lf n (nI a)) (upd rt n (nI b)) (upd nx n (hd q)) (upd sz n 0) hg nu hd (nI n) nm le sy pl wa tx ts ou os wd ws tw tg o1 s1 atp rf rp pS pF pT pL op it isz wh dn wk me sh ot) rfl ?_
  refine aw_if_ge rfl (fun h54 => ?_) (fun h54 => absurd (nI_0le (by omega)) h54)
  refine aw_go 4 67 [some (.ref 0), some (.int (nI a)), some (.int (nI b)), some (.int (nI q))] [.int (nI a), .ref 5, .int 1, .int (nI n), .ref 5] (moH (upd lf n (nI a)) (upd rt n (nI b)) (upd nx n (hd q)) (upd sz n 0) hg nu hd (nI n) nm le sy pl wa tx ts ou os wd ws tw tg o1 s1 atp rf rp pS pF pT pL op it isz wh dn wk me sh ot) rfl ?_
  refine aw_ialdN rfl rfl ⟨by omega, by omega⟩ ?_
  refine aw_go 3 73 [some (.ref 0), some (.int (nI a)), some (.int (nI b)), some (.int (nI q))] [.int (nI b), .ref 5, .int (hg a), .int 1, .int (nI n), .ref 5] (moH (upd lf n (nI a)) (upd rt n (nI b)) (upd nx n (hd q)) (upd sz n 0) hg nu hd (nI n) nm le sy pl wa tx ts ou os wd ws tw tg o1 s1 atp rf rp pS pF pT pL op it isz wh dn wk me sh ot) rfl ?_
  refine aw_ialdN rfl rfl ⟨by omega, by omega⟩ ?_
  rw [hda.2, hdb.2]
  refine aw_cmp_le rfl (fun h74 => ?_) (fun h74 => ?_)
  · refine aw_go 3 91 [some (.ref 0), some (.int (nI a)), some (.int (nI b)), some (.int (nI q))] [.int (nI b), .ref 5, .int 1, .int (nI n), .ref 5] (moH (upd lf n (nI a)) (upd rt n (nI b)) (upd nx n (hd q)) (upd sz n 0) hg nu hd (nI n) nm le sy pl wa tx ts ou os wd ws tw tg o1 s1 atp rf rp pS pF pT pL op it isz wh dn wk me sh ot) rfl ?_
    refine aw_ialdN rfl rfl ⟨by omega, by omega⟩ ?_
    first | rw [hda.2] | rw [hdb.2]
    refine aw_go 1 93 [some (.ref 0), some (.int (nI a)), some (.int (nI b)), some (.int (nI q))] [.int (1 + (nI db)), .int (nI n), .ref 5] (moH (upd lf n (nI a)) (upd rt n (nI b)) (upd nx n (hd q)) (upd sz n 0) hg nu hd (nI n) nm le sy pl wa tx ts ou os wd ws tw tg o1 s1 atp rf rp pS pF pT pL op it isz wh dn wk me sh ot) rfl ?_
    refine aw_iastN rfl rfl ⟨by omega, by omega⟩ ?_
    refine aw_go 5 103 [some (.ref 0), some (.int (nI a)), some (.int (nI b)), some (.int (nI q))] [.int (nI n), .int (nI q), .ref 7] (moH (upd lf n (nI a)) (upd rt n (nI b)) (upd nx n (hd q)) (upd sz n 0) (upd hg n (1 + (nI db))) nu hd (nI n) nm le sy pl wa tx ts ou os wd ws tw tg o1 s1 atp rf rp pS pF pT pL op it isz wh dn wk me sh ot) rfl ?_
    refine aw_iastN rfl rfl ⟨by omega, by omega⟩ ?_
    refine aw_go 10 120 [some (.ref 0), some (.int (nI a)), some (.int (nI b)), some (.int (nI q))] [.int (((nI n) + 1) - 1)] (moH (upd lf n (nI a)) (upd rt n (nI b)) (upd nx n (hd q)) (upd sz n 0) (upd hg n (1 + (nI db))) nu (upd hd q (nI n)) ((nI n) + 1) nm le sy pl wa tx ts ou os wd ws tw tg o1 s1 atp rf rp pS pF pT pL op it isz wh dn wk me sh ot) rfl ?_
    exact aw_iret rfl rfl rfl ⟨by rw [← nI_succ, nI_pred], by rw [nI_succ, (mo_dep hda.1 hdb.1).1 h74]⟩ rfl (Nat.le_refl _) (Nat.le_refl _) -- [.int (((nI n) + 1) - 1)] (moH (upd lf n (nI a)) (upd rt n (nI b)) (upd nx n (hd q)) (upd sz n 0) (upd hg n (1 + (nI db))) nu (upd hd q (nI n)) ((nI n) + 1) nm le sy pl wa tx ts ou os wd ws tw tg o1 s1 atp rf rp pS pF pT pL op it isz wh dn wk me sh ot)
  · refine aw_go 3 82 [some (.ref 0), some (.int (nI a)), some (.int (nI b)), some (.int (nI q))] [.int (nI a), .ref 5, .int 1, .int (nI n), .ref 5] (moH (upd lf n (nI a)) (upd rt n (nI b)) (upd nx n (hd q)) (upd sz n 0) hg nu hd (nI n) nm le sy pl wa tx ts ou os wd ws tw tg o1 s1 atp rf rp pS pF pT pL op it isz wh dn wk me sh ot) rfl ?_
    refine aw_ialdN rfl rfl ⟨by omega, by omega⟩ ?_
    refine aw_go 1 92 [some (.ref 0), some (.int (nI a)), some (.int (nI b)), some (.int (nI q))] [.int (hg a), .int 1, .int (nI n), .ref 5] (moH (upd lf n (nI a)) (upd rt n (nI b)) (upd nx n (hd q)) (upd sz n 0) hg nu hd (nI n) nm le sy pl wa tx ts ou os wd ws tw tg o1 s1 atp rf rp pS pF pT pL op it isz wh dn wk me sh ot) rfl ?_
    first | rw [hda.2] | rw [hdb.2]
    refine aw_go 1 93 [some (.ref 0), some (.int (nI a)), some (.int (nI b)), some (.int (nI q))] [.int (1 + (nI da)), .int (nI n), .ref 5] (moH (upd lf n (nI a)) (upd rt n (nI b)) (upd nx n (hd q)) (upd sz n 0) hg nu hd (nI n) nm le sy pl wa tx ts ou os wd ws tw tg o1 s1 atp rf rp pS pF pT pL op it isz wh dn wk me sh ot) rfl ?_
    refine aw_iastN rfl rfl ⟨by omega, by omega⟩ ?_
    refine aw_go 5 103 [some (.ref 0), some (.int (nI a)), some (.int (nI b)), some (.int (nI q))] [.int (nI n), .int (nI q), .ref 7] (moH (upd lf n (nI a)) (upd rt n (nI b)) (upd nx n (hd q)) (upd sz n 0) (upd hg n (1 + (nI da))) nu hd (nI n) nm le sy pl wa tx ts ou os wd ws tw tg o1 s1 atp rf rp pS pF pT pL op it isz wh dn wk me sh ot) rfl ?_
    refine aw_iastN rfl rfl ⟨by omega, by omega⟩ ?_
    refine aw_go 10 120 [some (.ref 0), some (.int (nI a)), some (.int (nI b)), some (.int (nI q))] [.int (((nI n) + 1) - 1)] (moH (upd lf n (nI a)) (upd rt n (nI b)) (upd nx n (hd q)) (upd sz n 0) (upd hg n (1 + (nI da))) nu (upd hd q (nI n)) ((nI n) + 1) nm le sy pl wa tx ts ou os wd ws tw tg o1 s1 atp rf rp pS pF pT pL op it isz wh dn wk me sh ot) rfl ?_
    exact aw_iret rfl rfl rfl ⟨by rw [← nI_succ, nI_pred], by rw [nI_succ, (mo_dep hda.1 hdb.1).2 h74]⟩ rfl (Nat.le_refl _) (Nat.le_refl _) -- [.int (((nI n) + 1) - 1)] (moH (upd lf n (nI a)) (upd rt n (nI b)) (upd nx n (hd q)) (upd sz n 0) (upd hg n (1 + (nI da))) nu (upd hd q (nI n)) ((nI n) + 1) nm le sy pl wa tx ts ou os wd ws tw tg o1 s1 atp rf rp pS pF pT pL op it isz wh dn wk me sh ot)
set_option maxHeartbeats 2000000 in
set_option maxRecDepth 100000 in
theorem c_Mo_pair (l : Launch) (lf rt nx sz hg : Nat → Int32) (nu : Nat → Int64) (hd nm le pl wa tx : Nat → Int32) (ts : Int32) (ou : Nat → Int32) (os : Int32) (wd : Nat → Int32) (ws : Int32) (tw : Nat → Int32) (tg : Int32) (o1 : Nat → Int32) (s1 atp rf rp : Int32) (pS pF pT pL : Nat → Int32) (op : Int32) (it : Nat → Int32) (isz wh dn : Int32) (wk me : Nat → Int32) (sh : Int32) (ot : Nat → Int32) (n ns : Nat) (t : Nat → Tr) (hm : mo_tb n ns lf rt nx hg nu hd nm le t) (a b : Nat) (ha : a < n) (hb : b < n) (hn : n < 16000) : Con l y_Mo_pair M_Mo_pair 1 23 [.ref 0, .int (nI a), .int (nI b)] (moH lf rt nx sz hg nu hd (nI n) nm le (nI ns) pl wa tx ts ou os wd ws tw tg o1 s1 atp rf rp pS pF pT pL op it isz wh dn wk me sh ot) 25 0 0 0 (fun r h' => ∃ (j n2 : Nat) (lf2 rt2 nx2 sz2 hg2 hd2 : Nat → Int32) (t2 : Nat → Tr), mo_tb n2 ns lf2 rt2 nx2 hg2 nu hd2 nm le t2 ∧ j < n2 ∧ t2 j = (.op (t a) (t b)) ∧ n ≤ n2 ∧ n2 ≤ n + 1 ∧ (∀ i, i < n → t2 i = t i) ∧ r = some (.int (nI j)) ∧ h' = moH lf2 rt2 nx2 sz2 hg2 nu hd2 (nI n2) nm le (nI ns) pl wa tx ts ou os wd ws tw tg o1 s1 atp rf rp pS pF pT pL op it isz wh dn wk me sh ot) := by
  obtain ⟨sw, hh, hm⟩ := hm
  have hn16 := hm.1.1
  obtain ⟨q, hq, hqe⟩ := mo_sl_q (nI a) (nI b)
  obtain ⟨ch, hch, hchl, hcha⟩ := hm.2.2.2.2 q hq
  refine Con.ent ok_Mo_pair (by decide +kernel) rfl ?_
  intro pA eA sA mA argsA belowA methA cA GA μA
  refine aw_go 2 2 [some (.ref 0), some (.int (nI a)), some (.int (nI b)), none, none] [.int (nI b), .int (nI a)] (moH lf rt nx sz hg nu hd (nI n) nm le (nI ns) pl wa tx ts ou os wd ws tw tg o1 s1 atp rf rp pS pF pT pL op it isz wh dn wk me sh ot) rfl ?_
  refine aw_cS [] (c_Mo_slot l (nI a) (nI b)) rfl cw_Mo_105 rfl rfl rfl rfl (Nat.le_refl _) (Nat.le_refl _) (fun r h' hp => ?_)
  obtain ⟨rfl, rfl⟩ := hp
  rw [hqe]
  refine aw_go 4 11 [some (.ref 0), some (.int (nI a)), some (.int (nI b)), some (.int (nI q)), none] [.int (nI q), .ref 7] (moH lf rt nx sz hg nu hd (nI n) nm le (nI ns) pl wa tx ts ou os wd ws tw tg o1 s1 atp rf rp pS pF pT pL op it isz wh dn wk me sh ot) rfl ?_
  refine aw_ialdN rfl rfl ⟨by omega, by omega⟩ ?_
  refine aw_go 1 14 [some (.ref 0), some (.int (nI a)), some (.int (nI b)), some (.int (nI q)), some (.int (hd q))] [] (moH lf rt nx sz hg nu hd (nI n) nm le (nI ns) pl wa tx ts ou os wd ws tw tg o1 s1 atp rf rp pS pF pT pL op it isz wh dn wk me sh ot) rfl ?_
  refine aw_loop (σ := Int32 × List Nat) (fun y => ch_R nx y.1 y.2 ∧ (∀ k ∈ y.2, k < n) ∧ ∀ i, i < n → t i = (.op (t a) (t b)) → i ∈ y.2) (fun y => y.2.length) (fun y => [some (.ref 0), some (.int (nI a)), some (.int (nI b)), some (.int (nI q)), some (.int y.1)]) (fun _ => []) (fun _ => moH lf rt nx sz hg nu hd (nI n) nm le (nI ns) pl wa tx ts ou os wd ws tw tg o1 s1 atp rf rp pS pF pT pL op it isz wh dn wk me sh ot) ?_ (hd q, ch) ⟨hch, hchl, fun i hi e => hcha i hi (by rw [(hm.fp hi ha hb).2 e]; exact hqe)⟩
  rintro ⟨x, ch2⟩ ⟨hc, hlt, hal⟩ ih
  dsimp only at hc hlt hal ih ⊢
  refine aw_go 2 17 [some (.ref 0), some (.int (nI a)), some (.int (nI b)), some (.int (nI q)), some (.int x)] [.int (-1), .int x] (moH lf rt nx sz hg nu hd (nI n) nm le (nI ns) pl wa tx ts ou os wd ws tw tg o1 s1 atp rf rp pS pF pT pL op it isz wh dn wk me sh ot) rfl ?_
  refine aw_cmp_eq rfl (fun h17 => ?_) (fun h17 => ?_)
  · refine aw_go 4 61 [some (.ref 0), some (.int (nI a)), some (.int (nI b)), some (.int (nI q)), some (.int x)] [.int (nI q), .int (nI b), .int (nI a), .ref 0] (moH lf rt nx sz hg nu hd (nI n) nm le (nI ns) pl wa tx ts ou os wd ws tw tg o1 s1 atp rf rp pS pF pT pL op it isz wh dn wk me sh ot) rfl ?_
    refine aw_cV [0, 1, 2, 3, 4, 5, 6, 7, 8, 9, 10, 11, 12, 13, 14, 15, 16, 17, 18, 19, 20, 21, 22, 23, 24] (c_Mo_added_p l lf rt nx sz hg nu hd nm le (nI ns) pl wa tx ts ou os wd ws tw tg o1 s1 atp rf rp pS pF pT pL op it isz wh dn wk me sh ot n q a b (tr_dep (t a)) (tr_dep (t b)) ha hb ⟨by have := (hm.2.1 a ha).2.1; omega, (hm.2.1 a ha).1⟩ ⟨by have := (hm.2.1 b hb).2.1; omega, (hm.2.1 b hb).1⟩ hq hn) rfl cw_Mo_116 rfl rfl rfl rfl rfl rfl (Nat.le_refl _) (Nat.le_refl _) (fun r h' hp => ?_)
    obtain ⟨rfl, rfl⟩ := hp
    refine aw_go 0 64 [some (.ref 0), some (.int (nI a)), some (.int (nI b)), some (.int (nI q)), some (.int x)] [.int (nI n)] (moH (upd lf n (nI a)) (upd rt n (nI b)) (upd nx n (hd q)) (upd sz n 0) (upd hg n (nI (1 + max (tr_dep (t a)) (tr_dep (t b))))) nu (upd hd q (nI n)) (nI (n + 1)) nm le (nI ns) pl wa tx ts ou os wd ws tw tg o1 s1 atp rf rp pS pF pT pL op it isz wh dn wk me sh ot) rfl ?_
    exact aw_iret rfl rfl rfl (by have hc0 := hc.nil hlt hn16 h17; subst hc0; exact ⟨n, n + 1, _, _, _, _, _, _, va_up t n (.op (t a) (t b)), ⟨sw, _, hm.add hn hq (fun _ _ => rfl) ⟨Nat.le_refl _, hm.1.2⟩ (fun _ _ => rfl) hm.2.2.1 (fun i hi e => nomatch hal i hi e) (by have := (hm.2.1 a ha).2.1; have := (hm.2.1 b hb).2.1; simp only [tr_dep]; omega) (Or.inr (Or.inr ⟨a, b, ha, hb, rfl, rfl, rfl, hqe.symm⟩))⟩, by omega, va_up_self _ _ _, by omega, by omega, fun i hi => va_up_ne _ _ (by omega), rfl, rfl⟩) rfl (Nat.le_refl _) (Nat.le_refl _) -- [.int (nI n)] (moH (upd lf n (nI a)) (upd rt n (nI b)) (upd nx n (hd q)) (upd sz n 0) (upd hg n (nI (1 + max (tr_dep (t a)) (tr_dep (t b))))) nu (upd hd q (nI n)) (nI (n + 1)) nm le (nI ns) pl wa tx ts ou os wd ws tw tg o1 s1 atp rf rp pS pF pT pL op it isz wh dn wk me sh ot)
  · obtain ⟨k, r, rfl, rfl, hc2⟩ := hc.cons h17
    have hk := hlt k List.mem_cons_self
    refine aw_go 3 26 [some (.ref 0), some (.int (nI a)), some (.int (nI b)), some (.int (nI q)), some (.int (nI k))] [.int (nI k), .ref 1] (moH lf rt nx sz hg nu hd (nI n) nm le (nI ns) pl wa tx ts ou os wd ws tw tg o1 s1 atp rf rp pS pF pT pL op it isz wh dn wk me sh ot) rfl ?_
    refine aw_ialdN rfl rfl ⟨by omega, by omega⟩ ?_
    refine aw_go 1 28 [some (.ref 0), some (.int (nI a)), some (.int (nI b)), some (.int (nI q)), some (.int (nI k))] [.int (nI a), .int (lf k)] (moH lf rt nx sz hg nu hd (nI n) nm le (nI ns) pl wa tx ts ou os wd ws tw tg o1 s1 atp rf rp pS pF pT pL op it isz wh dn wk me sh ot) rfl ?_
    refine aw_cmp_ne rfl (fun h28 => ?_) (fun h28 => ?_)
    · refine aw_go 3 51 [some (.ref 0), some (.int (nI a)), some (.int (nI b)), some (.int (nI q)), some (.int (nI k))] [.int (nI k), .ref 3] (moH lf rt nx sz hg nu hd (nI n) nm le (nI ns) pl wa tx ts ou os wd ws tw tg o1 s1 atp rf rp pS pF pT pL op it isz wh dn wk me sh ot) rfl ?_
      refine aw_ialdN rfl rfl ⟨by omega, by omega⟩ ?_
      refine aw_go 2 14 [some (.ref 0), some (.int (nI a)), some (.int (nI b)), some (.int (nI q)), some (.int (nx k))] [] (moH lf rt nx sz hg nu hd (nI n) nm le (nI ns) pl wa tx ts ou os wd ws tw tg o1 s1 atp rf rp pS pF pT pL op it isz wh dn wk me sh ot) rfl ?_
      -- LOOP 14: [some (.ref 0), some (.int (nI a)), some (.int (nI b)), some (.int (nI q)), some (.int (nx k))] [] (moH lf rt nx sz hg nu hd (nI n) nm le (nI ns) pl wa tx ts ou os wd ws tw tg o1 s1 atp rf rp pS pF pT pL op it isz wh dn wk me sh ot)
      exact aw_eq rfl rfl rfl (ih (nx k, r) ⟨hc2, fun j hj => hlt j (List.mem_cons_of_mem _ hj), fun i hi e => (List.mem_cons.mp (hal i hi e)).resolve_left (fun z => by rw [z] at e; exact h28 ((hm.fp hk ha hb).1.mpr e).1)⟩ (Nat.lt_succ_self _))
    · refine aw_go 3 37 [some (.ref 0), some (.int (nI a)), some (.int (nI b)), some (.int (nI q)), some (.int (nI k))] [.int (nI k), .ref 2] (moH lf rt nx sz hg nu hd (nI n) nm le (nI ns) pl wa tx ts ou os wd ws tw tg o1 s1 atp rf rp pS pF pT pL op it isz wh dn wk me sh ot) rfl ?_
      refine aw_ialdN rfl rfl ⟨by omega, by omega⟩ ?_
      refine aw_go 1 39 [some (.ref 0), some (.int (nI a)), some (.int (nI b)), some (.int (nI q)), some (.int (nI k))] [.int (nI b), .int (rt k)] (moH lf rt nx sz hg nu hd (nI n) nm le (nI ns) pl wa tx ts ou os wd ws tw tg o1 s1 atp rf rp pS pF pT pL op it isz wh dn wk me sh ot) rfl ?_
      refine aw_cmp_ne rfl (fun h39 => ?_) (fun h39 => ?_)
      · refine aw_go 3 51 [some (.ref 0), some (.int (nI a)), some (.int (nI b)), some (.int (nI q)), some (.int (nI k))] [.int (nI k), .ref 3] (moH lf rt nx sz hg nu hd (nI n) nm le (nI ns) pl wa tx ts ou os wd ws tw tg o1 s1 atp rf rp pS pF pT pL op it isz wh dn wk me sh ot) rfl ?_
        refine aw_ialdN rfl rfl ⟨by omega, by omega⟩ ?_
        refine aw_go 2 14 [some (.ref 0), some (.int (nI a)), some (.int (nI b)), some (.int (nI q)), some (.int (nx k))] [] (moH lf rt nx sz hg nu hd (nI n) nm le (nI ns) pl wa tx ts ou os wd ws tw tg o1 s1 atp rf rp pS pF pT pL op it isz wh dn wk me sh ot) rfl ?_
        -- LOOP 14: [some (.ref 0), some (.int (nI a)), some (.int (nI b)), some (.int (nI q)), some (.int (nx k))] [] (moH lf rt nx sz hg nu hd (nI n) nm le (nI ns) pl wa tx ts ou os wd ws tw tg o1 s1 atp rf rp pS pF pT pL op it isz wh dn wk me sh ot)
        exact aw_eq rfl rfl rfl (ih (nx k, r) ⟨hc2, fun j hj => hlt j (List.mem_cons_of_mem _ hj), fun i hi e => (List.mem_cons.mp (hal i hi e)).resolve_left (fun z => by rw [z] at e; exact h39 ((hm.fp hk ha hb).1.mpr e).2)⟩ (Nat.lt_succ_self _))
      · refine aw_go 1 44 [some (.ref 0), some (.int (nI a)), some (.int (nI b)), some (.int (nI q)), some (.int (nI k))] [.int (nI k)] (moH lf rt nx sz hg nu hd (nI n) nm le (nI ns) pl wa tx ts ou os wd ws tw tg o1 s1 atp rf rp pS pF pT pL op it isz wh dn wk me sh ot) rfl ?_
        exact aw_iret rfl rfl rfl ⟨k, n, lf, rt, nx, sz, hg, hd, t, ⟨sw, hh, hm⟩, hk, (hm.fp hk ha hb).1.mp ⟨h28, h39⟩, Nat.le_refl _, by omega, fun _ _ => rfl, rfl, rfl⟩ rfl (Nat.le_refl _) (Nat.le_refl _) -- [.int (nI k)] (moH lf rt nx sz hg nu hd (nI n) nm le (nI ns) pl wa tx ts ou os wd ws tw tg o1 s1 atp rf rp pS pF pT pL op it isz wh dn wk me sh ot)
set_option maxHeartbeats 2000000 in
set_option maxRecDepth 100000 in
theorem c_Mo_natural (l : Launch) (lf rt nx sz hg : Nat → Int32) (nu : Nat → Int64) (hd nm le pl wa tx : Nat → Int32) (ts : Int32) (ou : Nat → Int32) (os : Int32) (wd : Nat → Int32) (ws : Int32) (tw : Nat → Int32) (tg : Int32) (o1 : Nat → Int32) (s1 atp rf rp : Int32) (pS pF pT pL : Nat → Int32) (op : Int32) (it : Nat → Int32) (isz wh dn : Int32) (wk me : Nat → Int32) (sh : Int32) (ot : Nat → Int32) (n ns : Nat) (t : Nat → Tr) (hm : mo_tb n ns lf rt nx hg nu hd nm le t) (v : Nat) (hv : v < 4611686018427387904) (hn : n < 16000) : Con l y_Mo_natural M_Mo_natural 1 23 [.ref 0, .long (lN v)] (moH lf rt nx sz hg nu hd (nI n) nm le (nI ns) pl wa tx ts ou os wd ws tw tg o1 s1 atp rf rp pS pF pT pL op it isz wh dn wk me sh ot) 25 0 0 0 (fun r h' => ∃ (j n2 : Nat) (lf2 rt2 nx2 sz2 hg2 : Nat → Int32) (nu2 : Nat → Int64) (hd2 : Nat → Int32) (t2 : Nat → Tr), mo_tb n2 ns lf2 rt2 nx2 hg2 nu2 hd2 nm le t2 ∧ j < n2 ∧ t2 j = tr_nat v ∧ n ≤ n2 ∧ n2 ≤ n + 1 ∧ (∀ i, i < n → t2 i = t i) ∧ r = some (.int (nI j)) ∧ h' = moH lf2 rt2 nx2 sz2 hg2 nu2 hd2 (nI n2) nm le (nI ns) pl wa tx ts ou os wd ws tw tg o1 s1 atp rf rp pS pF pT pL op it isz wh dn wk me sh ot) := by
  obtain ⟨sw, hh, hm⟩ := hm
  have hn16 := hm.1.1
  obtain ⟨q, hq, hqe⟩ := mo_sl_q (Int64.toInt32 (lN v)) (Int64.toInt32 (lN v >>> (Int32.toInt64 32 &&& 63)))
  obtain ⟨ch, hch, hchl, hcha⟩ := hm.2.2.2.2 q hq
  refine Con.ent ok_Mo_natural (by decide +kernel) rfl ?_
  intro pA eA sA mA argsA belowA methA cA GA μA
  refine aw_go 6 7 [some (.ref 0), some (.long (lN v)), none, none, none] [.int (Int64.toInt32 ((lN v) >>> (Int32.toInt64 32 &&& 63))), .int (Int64.toInt32 (lN v))] (moH lf rt nx sz hg nu hd (nI n) nm le (nI ns) pl wa tx ts ou os wd ws tw tg o1 s1 atp rf rp pS pF pT pL op it isz wh dn wk me sh ot) rfl ?_
  refine aw_cS [] (c_Mo_slot l (Int64.toInt32 (lN v)) (Int64.toInt32 ((lN v) >>> (Int32.toInt64 32 &&& 63)))) rfl cw_Mo_105 rfl rfl rfl rfl (Nat.le_refl _) (Nat.le_refl _) (fun r h' hp => ?_)
  obtain ⟨rfl, rfl⟩ := hp
  rw [hqe]
  refine aw_go 4 16 [some (.ref 0), some (.long (lN v)), none, some (.int (nI q)), none] [.int (nI q), .ref 7] (moH lf rt nx sz hg nu hd (nI n) nm le (nI ns) pl wa tx ts ou os wd ws tw tg o1 s1 atp rf rp pS pF pT pL op it isz wh dn wk me sh ot) rfl ?_
  refine aw_ialdN rfl rfl ⟨by omega, by omega⟩ ?_
  refine aw_go 1 19 [some (.ref 0), some (.long (lN v)), none, some (.int (nI q)), some (.int (hd q))] [] (moH lf rt nx sz hg nu hd (nI n) nm le (nI ns) pl wa tx ts ou os wd ws tw tg o1 s1 atp rf rp pS pF pT pL op it isz wh dn wk me sh ot) rfl ?_
  refine aw_loop (σ := Int32 × List Nat) (fun y => ch_R nx y.1 y.2 ∧ (∀ k ∈ y.2, k < n) ∧ ∀ i, i < n → t i = tr_nat v → i ∈ y.2) (fun y => y.2.length) (fun y => [some (.ref 0), some (.long (lN v)), none, some (.int (nI q)), some (.int y.1)]) (fun _ => []) (fun _ => moH lf rt nx sz hg nu hd (nI n) nm le (nI ns) pl wa tx ts ou os wd ws tw tg o1 s1 atp rf rp pS pF pT pL op it isz wh dn wk me sh ot) ?_ (hd q, ch) ⟨hch, hchl, fun i hi e => hcha i hi (by rw [(hm.fn hi hv).2 e]; exact hqe)⟩
  rintro ⟨x, ch2⟩ ⟨hc, hlt, hal⟩ ih
  dsimp only at hc hlt hal ih ⊢
  refine aw_go 2 22 [some (.ref 0), some (.long (lN v)), none, some (.int (nI q)), some (.int x)] [.int (-1), .int x] (moH lf rt nx sz hg nu hd (nI n) nm le (nI ns) pl wa tx ts ou os wd ws tw tg o1 s1 atp rf rp pS pF pT pL op it isz wh dn wk me sh ot) rfl ?_
  refine aw_cmp_eq rfl (fun h22 => ?_) (fun h22 => ?_)
  · refine aw_go 5 72 [some (.ref 0), some (.long (lN v)), none, some (.int (nI q)), some (.int x)] [.long (lN v), .int (nI n), .ref 6] (moH lf rt nx sz hg nu hd (nI n) nm le (nI ns) pl wa tx ts ou os wd ws tw tg o1 s1 atp rf rp pS pF pT pL op it isz wh dn wk me sh ot) rfl ?_
    refine aw_lastN rfl rfl ⟨by omega, by omega⟩ ?_
    refine aw_go 4 77 [some (.ref 0), some (.long (lN v)), none, some (.int (nI q)), some (.int x)] [.int (nI q), .int 0, .int (-1), .ref 0] (moH lf rt nx sz hg (vp_updL nu n (lN v)) hd (nI n) nm le (nI ns) pl wa tx ts ou os wd ws tw tg o1 s1 atp rf rp pS pF pT pL op it isz wh dn wk me sh ot) rfl ?_
    refine aw_cV [0, 1, 2, 3, 4, 5, 6, 7, 8, 9, 10, 11, 12, 13, 14, 15, 16, 17, 18, 19, 20, 21, 22, 23, 24] (c_Mo_added_a l lf rt nx sz hg (vp_updL nu n (lN v)) hd nm le (nI ns) pl wa tx ts ou os wd ws tw tg o1 s1 atp rf rp pS pF pT pL op it isz wh dn wk me sh ot n q (-1) (0) (by decide) hq hn) rfl cw_Mo_116 rfl rfl rfl rfl rfl rfl (Nat.le_refl _) (Nat.le_refl _) (fun r h' hp => ?_)
    obtain ⟨rfl, rfl⟩ := hp
    refine aw_go 0 80 [some (.ref 0), some (.long (lN v)), none, some (.int (nI q)), some (.int x)] [.int (nI n)] (moH (upd lf n (-1)) (upd rt n (0)) (upd nx n (hd q)) (upd sz n 0) (upd hg n (0)) (vp_updL nu n (lN v)) (upd hd q (nI n)) (nI (n + 1)) nm le (nI ns) pl wa tx ts ou os wd ws tw tg o1 s1 atp rf rp pS pF pT pL op it isz wh dn wk me sh ot) rfl ?_
    exact aw_iret rfl rfl rfl (by have hc0 := hc.nil hlt hn16 h22; subst hc0; exact ⟨n, n + 1, _, _, _, _, _, _, _, va_up t n (tr_nat v), ⟨sw, _, hm.add hn hq (fun i hi => pk_uLn (by omega)) ⟨Nat.le_refl _, hm.1.2⟩ (fun _ _ => rfl) hm.2.2.1 (fun i hi e => nomatch hal i hi e) (Nat.zero_le _) (Or.inl ⟨rfl, v, hv, pk_uLs, rfl, hqe.symm⟩)⟩, by omega, va_up_self _ _ _, by omega, by omega, fun i hi => va_up_ne _ _ (by omega), rfl, rfl⟩) rfl (Nat.le_refl _) (Nat.le_refl _) -- [.int (nI n)] (moH (upd lf n (-1)) (upd rt n (0)) (upd nx n (hd q)) (upd sz n 0) (upd hg n (0)) (vp_updL nu n (lN v)) (upd hd q (nI n)) (nI (n + 1)) nm le (nI ns) pl wa tx ts ou os wd ws tw tg o1 s1 atp rf rp pS pF pT pL op it isz wh dn wk me sh ot)
  · obtain ⟨k, r, rfl, rfl, hc2⟩ := hc.cons h22
    have hk := hlt k List.mem_cons_self
    refine aw_go 3 31 [some (.ref 0), some (.long (lN v)), none, some (.int (nI q)), some (.int (nI k))] [.int (nI k), .ref 1] (moH lf rt nx sz hg nu hd (nI n) nm le (nI ns) pl wa tx ts ou os wd ws tw tg o1 s1 atp rf rp pS pF pT pL op it isz wh dn wk me sh ot) rfl ?_
    refine aw_ialdN rfl rfl ⟨by omega, by omega⟩ ?_
    refine aw_go 1 33 [some (.ref 0), some (.long (lN v)), none, some (.int (nI q)), some (.int (nI k))] [.int (-1), .int (lf k)] (moH lf rt nx sz hg nu hd (nI n) nm le (nI ns) pl wa tx ts ou os wd ws tw tg o1 s1 atp rf rp pS pF pT pL op it isz wh dn wk me sh ot) rfl ?_
    refine aw_cmp_ne rfl (fun h33 => ?_) (fun h33 => ?_)
    · refine aw_go 3 57 [some (.ref 0), some (.long (lN v)), none, some (.int (nI q)), some (.int (nI k))] [.int (nI k), .ref 3] (moH lf rt nx sz hg nu hd (nI n) nm le (nI ns) pl wa tx ts ou os wd ws tw tg o1 s1 atp rf rp pS pF pT pL op it isz wh dn wk me sh ot) rfl ?_
      refine aw_ialdN rfl rfl ⟨by omega, by omega⟩ ?_
      refine aw_go 2 19 [some (.ref 0), some (.long (lN v)), none, some (.int (nI q)), some (.int (nx k))] [] (moH lf rt nx sz hg nu hd (nI n) nm le (nI ns) pl wa tx ts ou os wd ws tw tg o1 s1 atp rf rp pS pF pT pL op it isz wh dn wk me sh ot) rfl ?_
      -- LOOP 19: [some (.ref 0), some (.long (lN v)), none, some (.int (nI q)), some (.int (nx k))] [] (moH lf rt nx sz hg nu hd (nI n) nm le (nI ns) pl wa tx ts ou os wd ws tw tg o1 s1 atp rf rp pS pF pT pL op it isz wh dn wk me sh ot)
      exact aw_eq rfl rfl rfl (ih (nx k, r) ⟨hc2, fun j hj => hlt j (List.mem_cons_of_mem _ hj), fun i hi e => (List.mem_cons.mp (hal i hi e)).resolve_left (fun z => by rw [z] at e; exact h33 ((hm.fn hk hv).1.mpr e).1)⟩ (Nat.lt_succ_self _))
    · refine aw_go 3 42 [some (.ref 0), some (.long (lN v)), none, some (.int (nI q)), some (.int (nI k))] [.int (nI k), .ref 6] (moH lf rt nx sz hg nu hd (nI n) nm le (nI ns) pl wa tx ts ou os wd ws tw tg o1 s1 atp rf rp pS pF pT pL op it isz wh dn wk me sh ot) rfl ?_
      refine aw_laldN rfl rfl ⟨by omega, by omega⟩ ?_
      refine aw_go 2 45 [some (.ref 0), some (.long (lN v)), none, some (.int (nI q)), some (.int (nI k))] [.int (lg_cmp (nu k) (lN v))] (moH lf rt nx sz hg nu hd (nI n) nm le (nI ns) pl wa tx ts ou os wd ws tw tg o1 s1 atp rf rp pS pF pT pL op it isz wh dn wk me sh ot) rfl ?_
      refine aw_if_ne rfl (fun h45 => ?_) (fun h45 => ?_)
      · refine aw_go 3 57 [some (.ref 0), some (.long (lN v)), none, some (.int (nI q)), some (.int (nI k))] [.int (nI k), .ref 3] (moH lf rt nx sz hg nu hd (nI n) nm le (nI ns) pl wa tx ts ou os wd ws tw tg o1 s1 atp rf rp pS pF pT pL op it isz wh dn wk me sh ot) rfl ?_
        refine aw_ialdN rfl rfl ⟨by omega, by omega⟩ ?_
        refine aw_go 2 19 [some (.ref 0), some (.long (lN v)), none, some (.int (nI q)), some (.int (nx k))] [] (moH lf rt nx sz hg nu hd (nI n) nm le (nI ns) pl wa tx ts ou os wd ws tw tg o1 s1 atp rf rp pS pF pT pL op it isz wh dn wk me sh ot) rfl ?_
        -- LOOP 19: [some (.ref 0), some (.long (lN v)), none, some (.int (nI q)), some (.int (nx k))] [] (moH lf rt nx sz hg nu hd (nI n) nm le (nI ns) pl wa tx ts ou os wd ws tw tg o1 s1 atp rf rp pS pF pT pL op it isz wh dn wk me sh ot)
        exact aw_eq rfl rfl rfl (ih (nx k, r) ⟨hc2, fun j hj => hlt j (List.mem_cons_of_mem _ hj), fun i hi e => (List.mem_cons.mp (hal i hi e)).resolve_left (fun z => by rw [z] at e; exact h45 (lg_c0.mpr ((hm.fn hk hv).1.mpr e).2))⟩ (Nat.lt_succ_self _))
      · refine aw_go 1 50 [some (.ref 0), some (.long (lN v)), none, some (.int (nI q)), some (.int (nI k))] [.int (nI k)] (moH lf rt nx sz hg nu hd (nI n) nm le (nI ns) pl wa tx ts ou os wd ws tw tg o1 s1 atp rf rp pS pF pT pL op it isz wh dn wk me sh ot) rfl ?_
        exact aw_iret rfl rfl rfl ⟨k, n, lf, rt, nx, sz, hg, nu, hd, t, ⟨sw, hh, hm⟩, hk, (hm.fn hk hv).1.mp ⟨h33, lg_c0.mp h45⟩, Nat.le_refl _, by omega, fun _ _ => rfl, rfl, rfl⟩ rfl (Nat.le_refl _) (Nat.le_refl _) -- [.int (nI k)] (moH lf rt nx sz hg nu hd (nI n) nm le (nI ns) pl wa tx ts ou os wd ws tw tg o1 s1 atp rf rp pS pF pT pL op it isz wh dn wk me sh ot)
