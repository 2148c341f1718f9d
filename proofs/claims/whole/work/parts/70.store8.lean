/-! Store: how many different parts an object has -/
def tr_sub : Tr → List Tr
  | .var c => [.var c]
  | .op a b => .op a b :: (tr_sub a ++ tr_sub b)
theorem tr_sub_self (T : Tr) : T ∈ tr_sub T := by
  cases T with
  | var c => exact List.mem_singleton.mpr rfl
  | op a b => exact List.mem_cons_self
theorem tr_sub_ch {T A B : Tr} (h : .op A B ∈ tr_sub T) : A ∈ tr_sub T ∧ B ∈ tr_sub T := by
  induction T with
  | var c => cases List.mem_singleton.mp h
  | op a b ha hb =>
    simp only [tr_sub, List.mem_cons, List.mem_append] at h ⊢
    rcases h with h | h | h
    · cases h
      exact ⟨Or.inr (Or.inl (tr_sub_self _)), Or.inr (Or.inr (tr_sub_self _))⟩
    · exact ⟨Or.inr (Or.inl (ha h).1), Or.inr (Or.inl (ha h).2)⟩
    · exact ⟨Or.inr (Or.inr (hb h).1), Or.inr (Or.inr (hb h).2)⟩
theorem tr_sub_all {P : Tr → Prop} (hc : ∀ A B, P (.op A B) → P A ∧ P B) : ∀ T, P T → ∀ T2 ∈ tr_sub T, P T2 := by
  intro T
  induction T with
  | var c => intro h T2 h2; rw [List.mem_singleton.mp h2]; exact h
  | op a b ha hb =>
    intro h T2 h2
    simp only [tr_sub, List.mem_cons, List.mem_append] at h2
    rcases h2 with h2 | h2 | h2
    · rw [h2]; exact h
    · exact ha (hc a b h).1 T2 h2
    · exact hb (hc a b h).2 T2 h2
/-- so many different parts are pairs, or else atoms -/
def cnt_R (T : Tr) (b : Bool) (q : Nat) : Prop := ∃ l : List Tr, l.Nodup ∧ (∀ T2, T2 ∈ l ↔ T2 ∈ tr_sub T ∧ tr_isp T2 = b) ∧ q = l.length
theorem nd_sub {α : Type} : ∀ (l1 l2 : List α), l1.Nodup → (∀ x ∈ l1, x ∈ l2) → l1.length ≤ l2.length := by
  intro l1
  induction l1 with
  | nil => intro l2 _ _; exact Nat.zero_le _
  | cons x r ih =>
    intro l2 hn hs
    obtain ⟨a, b, rfl⟩ := List.append_of_mem (hs x List.mem_cons_self)
    have hn2 := List.nodup_cons.mp hn
    have := ih (a ++ b) hn2.2 (fun y hy => by
      have h1 := hs y (List.mem_cons_of_mem _ hy)
      rcases List.mem_append.mp h1 with z | z
      · exact List.mem_append_left _ z
      · rcases List.mem_cons.mp z with z | z
        · rw [z] at hy; exact absurd hy hn2.1
        · exact List.mem_append_right _ z)
    simp only [List.length_append, List.length_cons] at this ⊢
    omega
theorem cnt_R.uniq {T : Tr} {b : Bool} {q1 q2 : Nat} (h1 : cnt_R T b q1) (h2 : cnt_R T b q2) : q1 = q2 := by
  obtain ⟨l1, a1, b1, rfl⟩ := h1
  obtain ⟨l2, a2, b2, rfl⟩ := h2
  exact Nat.le_antisymm (nd_sub l1 l2 a1 (fun x hx => (b2 x).mpr ((b1 x).mp hx))) (nd_sub l2 l1 a2 (fun x hx => (b1 x).mpr ((b2 x).mp hx)))
/-- the parts that are found so far -/
def pt_R (n : Nat) (mk pt : Nat → Int32) (mark : Int32) (ps : List Nat) : Prop := ps.Nodup ∧ (∀ x ∈ ps, x < n) ∧ (∀ j, j < n → (mk j = mark ↔ j ∈ ps)) ∧ (∀ m, m < ps.length → pt m = nI (ps.getD m 0))
theorem nd_lt {n : Nat} {ps : List Nat} (h1 : ps.Nodup) (h2 : ∀ x ∈ ps, x < n) : ps.length ≤ n := by
  have := nd_sub ps (List.range n) h1 (fun x hx => List.mem_range.mpr (h2 x hx))
  rw [List.length_range] at this
  exact this
theorem nd_mem {ps : List Nat} {k : Nat} (h : k < ps.length) : ps.getD k 0 ∈ ps := by
  rw [List.getD_eq_getElem?_getD, List.getElem?_eq_getElem h]
  exact List.getElem_mem h
theorem pt_R.le {n : Nat} {mk pt : Nat → Int32} {mark : Int32} {ps : List Nat} (h : pt_R n mk pt mark ps) : ps.length ≤ n := nd_lt h.1 h.2.1
theorem pt_R.lt {n : Nat} {mk pt : Nat → Int32} {mark : Int32} {ps : List Nat} (h : pt_R n mk pt mark ps) {i : Nat} (hi : i < n) (hni : i ∉ ps) : ps.length < n := by
  have := nd_lt (n := n) (ps := i :: ps) (List.nodup_cons.mpr ⟨hni, h.1⟩) (fun x hx => by
    rcases List.mem_cons.mp hx with z | z
    · omega
    · exact h.2.1 x z)
  exact this
theorem pt_R.push {n : Nat} {mk pt : Nat → Int32} {mark : Int32} {ps : List Nat} (h : pt_R n mk pt mark ps) {i : Nat} (hi : i < n) (hni : i ∉ ps) : pt_R n (upd mk i mark) (upd pt ps.length (nI i)) mark (ps ++ [i]) := by
  obtain ⟨h1, h2, h3, h4⟩ := h
  refine ⟨?_, fun x hx => ?_, fun j hj => ?_, fun m hm => ?_⟩
  · rw [List.nodup_append]
    refine ⟨h1, by simp, fun a ha b hb => ?_⟩
    rw [List.mem_singleton.mp hb]
    intro e
    rw [e] at ha
    exact hni ha
  · rcases List.mem_append.mp hx with z | z
    · exact h2 x z
    · rw [List.mem_singleton.mp z]; exact hi
  · by_cases e : j = i
    · subst e
      rw [pk_us]
      simp
    · rw [pk_un e, h3 j hj]
      simp [e]
  · rw [List.length_append, List.length_singleton] at hm
    rcases Nat.lt_or_ge m ps.length with z | z
    · rw [pk_un (by omega), h4 m z, List.getD_eq_getElem?_getD, List.getD_eq_getElem?_getD, List.getElem?_append_left z]
    · have : m = ps.length := by omega
      subst this
      rw [pk_us, List.getD_eq_getElem?_getD, List.getElem?_append_right (Nat.le_refl _), Nat.sub_self]
      rfl
theorem st_mk.put {cap Q : Nat} {mk : Nat → Int32} (h : st_mk cap mk (nI Q) Q) (i : Nat) : st_mk cap (upd mk i (nI Q)) (nI Q) Q := by
  refine ⟨rfl, fun j hj => ?_⟩
  by_cases e : j = i
  · subst e; exact ⟨Q, Nat.le_refl _, pk_us⟩
  · obtain ⟨z, h1, h2⟩ := h.2 j hj
    exact ⟨z, h1, by rw [pk_un e]; exact h2⟩
theorem st_mk.next {cap Q : Nat} {mk : Nat → Int32} (h : st_mk cap mk (nI Q) Q) : st_mk cap mk (nI (Q + 1)) (Q + 1) := ⟨rfl, fun j hj => by
  obtain ⟨z, h1, h2⟩ := h.2 j hj
  exact ⟨z, by omega, h2⟩⟩
theorem pt_R.new {cap n Q : Nat} {mk pt : Nat → Int32} (h : st_mk cap mk (nI Q) Q) (hn : n ≤ cap) (hQ : Q + 1 < 2 ^ 31) : pt_R n mk pt (nI (Q + 1)) [] := by
  refine ⟨List.nodup_nil, (fun x hx => nomatch hx), fun j hj => ⟨fun e => ?_, (fun e => nomatch e)⟩, fun m hm => absurd hm (Nat.not_lt_zero m)⟩
  obtain ⟨z, h1, h2⟩ := h.2 j (by omega)
  rw [h2] at e
  have := nI_inj (by omega) hQ e
  omega
def pt_I (t : Nat → Tr) (o : Nat) (b : Bool) (k c : Nat) (ps : List Nat) : Prop := k ≤ ps.length ∧ o ∈ ps ∧ (∀ x ∈ ps, t x ∈ tr_sub (t o)) ∧ (∀ m, m < k → ∀ A B, t (ps.getD m 0) = .op A B → (∃ a ∈ ps, t a = A) ∧ (∃ a ∈ ps, t a = B)) ∧ c = ((ps.take k).filter (fun x => tr_isp (t x) == b)).length
theorem getD_app {ps e : List Nat} {m : Nat} (h : m < ps.length) : (ps ++ e).getD m 0 = ps.getD m 0 := by
  rw [List.getD_eq_getElem?_getD, List.getD_eq_getElem?_getD, List.getElem?_append_left h]
theorem pt_I.step {t : Nat → Tr} {o : Nat} {b : Bool} {k c : Nat} {ps : List Nat} (h : pt_I t o b k c ps) (hk : k < ps.length) (e : List Nat) (he : ∀ y ∈ e, t y ∈ tr_sub (t o)) (hch : ∀ A B, t (ps.getD k 0) = .op A B → (∃ a ∈ ps ++ e, t a = A) ∧ (∃ a ∈ ps ++ e, t a = B)) : pt_I t o b (k + 1) (if tr_isp (t (ps.getD k 0)) == b then c + 1 else c) (ps ++ e) := by
  obtain ⟨h1, h2, h3, h4, h5⟩ := h
  refine ⟨by rw [List.length_append]; omega, List.mem_append_left _ h2, fun x hx => ?_, fun m hm A B hT => ?_, ?_⟩
  · rcases List.mem_append.mp hx with z | z
    · exact h3 x z
    · exact he x z
  · rw [getD_app (by omega)] at hT
    rcases Nat.lt_or_ge m k with z | z
    · obtain ⟨⟨a, a1, a2⟩, ⟨a', b1, b2⟩⟩ := h4 m z A B hT
      exact ⟨⟨a, List.mem_append_left _ a1, a2⟩, ⟨a', List.mem_append_left _ b1, b2⟩⟩
    · rw [show m = k by omega] at hT
      exact hch A B hT
  · have ht : (ps ++ e).take (k + 1) = ps.take k ++ [ps.getD k 0] := by
      rw [List.take_append_of_le_length (by omega), List.take_add_one, List.getD_eq_getElem?_getD, List.getElem?_eq_getElem hk]
      rfl
    rw [ht, List.filter_append, List.length_append, ← h5]
    cases hq : (tr_isp (t (ps.getD k 0)) == b) with
    | true => rw [List.filter_cons_of_pos (by simpa using hq)]; simp
    | false => rw [List.filter_cons_of_neg (by simpa using hq)]; simp
theorem pt_I.fin {t : Nat → Tr} {o : Nat} {b : Bool} {k c : Nat} {ps : List Nat} {cap n e0 : Nat} {keys : Nat → Int64} {dp ln sl mk pt : Nat → Int32} {mark : Int32} (h : pt_I t o b k c ps) (hst : st_ok cap n e0 keys dp ln sl t) (hP : pt_R n mk pt mark ps) (hk : k = ps.length) : cnt_R (t o) b c := by
  obtain ⟨h1, h2, h3, h4, h5⟩ := h
  subst hk
  rw [List.take_length] at h5
  refine ⟨(ps.filter (fun x => tr_isp (t x) == b)).map t, ?_, fun T2 => ?_, by rw [List.length_map]; exact h5⟩
  · unfold List.Nodup
    rw [List.pairwise_map]
    refine List.Pairwise.imp_of_mem ?_ (List.Pairwise.filter _ hP.1)
    intro a a2 ha ha2 hne e
    exact hne (hst.inj n a a2 (hP.2.1 a (List.mem_filter.mp ha).1) (hP.2.1 a (List.mem_filter.mp ha).1) (hP.2.1 a2 (List.mem_filter.mp ha2).1) e)
  · have hall : ∀ T3 ∈ tr_sub (t o), ∃ x ∈ ps, t x = T3 := by
      refine tr_sub_all (P := fun T3 => ∃ x ∈ ps, t x = T3) ?_ (t o) ⟨o, h2, rfl⟩
      rintro A B ⟨x, hx, hxt⟩
      obtain ⟨m, hm, hme⟩ := List.getElem_of_mem hx
      refine h4 m hm A B ?_
      rw [List.getD_eq_getElem?_getD, List.getElem?_eq_getElem hm, Option.getD_some, hme]
      exact hxt
    constructor
    · intro hT
      obtain ⟨x, hx, rfl⟩ := List.mem_map.mp hT
      obtain ⟨q1, q2⟩ := List.mem_filter.mp hx
      exact ⟨h3 x q1, by simpa using q2⟩
    · rintro ⟨q1, q2⟩
      obtain ⟨x, hx, rfl⟩ := hall T2 q1
      exact List.mem_map.mpr ⟨x, List.mem_filter.mpr ⟨hx, by simpa using q2⟩, rfl⟩
set_option maxHeartbeats 2000000 in
set_option maxRecDepth 100000 in
theorem c_St_addPart (l : Launch) (cap n : Nat) (keys : Nat → Int64) (dp ln mk pt sl : Nat → Int32) (e0 : Nat) (t : Nat → Tr) (h : st_ok cap n e0 keys dp ln sl t) (i : Nat) (hi : i < n) (Q : Nat) (ps : List Nat) (hP : pt_R n mk pt (nI Q) ps) (hM : st_mk cap mk (nI Q) Q) : Con l y_St_addPart M_St_addPart 1 21 [.ref 0, .int (nI i), .int (nI ps.length)] (stH cap keys dp ln mk pt sl (nI n) (nI Q)) 7 0 0 0 (fun r h' => ∃ (mk2 pt2 : Nat → Int32) (e : List Nat), pt_R n mk2 pt2 (nI Q) (ps ++ e) ∧ st_mk cap mk2 (nI Q) Q ∧ i ∈ ps ++ e ∧ (∀ y ∈ e, y = i) ∧ r = some (.int (nI (ps ++ e).length)) ∧ h' = stH cap keys dp ln mk2 pt2 sl (nI n) (nI Q)) := by
  have hcap := h.1.cap
  have hn := h.1.2.1
  have hle := pt_R.le hP
  refine Con.ent ok_St_addPart (by decide +kernel) rfl ?_
  intro pA eA sA mA argsA belowA methA cA GA μA
  refine aw_go 2 2 [some (.ref 0), some (.int (nI i)), some (.int (nI ps.length))] [.int (nI i), .ref 0] (stH cap keys dp ln mk pt sl (nI n) (nI Q)) rfl ?_
  refine aw_cV [0, 1, 2, 3, 4, 5, 6] (c_St_has1 l cap n keys dp ln mk pt sl (nI Q) i (by have := h.1.2.1; have := h.1.cap; omega) hi) rfl cw_St_76 rfl rfl rfl rfl rfl rfl (Nat.le_refl _) (Nat.le_refl _) (fun r h' hp => ?_)
  obtain ⟨rfl, rfl⟩ := hp
  refine aw_go 0 5 [some (.ref 0), some (.int (nI i)), some (.int (nI ps.length))] [.int 1] (stH cap keys dp ln mk pt sl (nI n) (nI Q)) rfl ?_
  refine aw_if_eq rfl (fun h5 => absurd h5 (by decide)) (fun h5 => ?_)
  refine aw_go 3 13 [some (.ref 0), some (.int (nI i)), some (.int (nI ps.length))] [.int (nI i), .ref 4] (stH cap keys dp ln mk pt sl (nI n) (nI Q)) rfl ?_
  refine aw_ialdN rfl rfl ⟨by omega, by omega⟩ ?_
  refine aw_go 2 18 [some (.ref 0), some (.int (nI i)), some (.int (nI ps.length))] [.int (nI Q), .int (mk i)] (stH cap keys dp ln mk pt sl (nI n) (nI Q)) rfl ?_
  refine aw_cmp_eq rfl (fun h18 => ?_) (fun h18 => ?_)
  · refine aw_go 1 35 [some (.ref 0), some (.int (nI i)), some (.int (nI ps.length))] [.int (nI ps.length)] (stH cap keys dp ln mk pt sl (nI n) (nI Q)) rfl ?_
    exact aw_iret rfl rfl rfl ⟨mk, pt, [], by rw [List.append_nil]; exact hP, hM, by rw [List.append_nil]; exact (hP.2.2.1 i hi).mp h18, (fun y hy => nomatch hy), by rw [List.append_nil], rfl⟩ rfl (Nat.le_refl _) (Nat.le_refl _) -- [.int (nI ps.length)] (stH cap keys dp ln mk pt sl (nI n) (nI Q))
  · have hni : i ∉ ps := fun z => h18 ((hP.2.2.1 i hi).mpr z)
    have hlt := hP.lt hi hni
    refine aw_go 1 22 [some (.ref 0), some (.int (nI i)), some (.int (nI ps.length))] [.int (nI ps.length)] (stH cap keys dp ln mk pt sl (nI n) (nI Q)) rfl ?_
    refine aw_if_lt rfl (fun h22 => absurd h22 (nI_pos (by omega))) (fun h22 => ?_)
    refine aw_go 4 31 [some (.ref 0), some (.int (nI i)), some (.int (nI ps.length))] [.int (nI cap), .int (nI ps.length)] (stH cap keys dp ln mk pt sl (nI n) (nI Q)) rfl ?_
    refine aw_cmp_lt rfl (fun h31 => ?_) (fun h31 => absurd (nI_lt (by omega) (by omega)) h31)
    refine aw_go 5 45 [some (.ref 0), some (.int (nI i)), some (.int (nI ps.length))] [.int (nI Q), .int (nI i), .ref 4] (stH cap keys dp ln mk pt sl (nI n) (nI Q)) rfl ?_
    refine aw_iastN rfl rfl ⟨by omega, by omega⟩ ?_
    refine aw_go 4 52 [some (.ref 0), some (.int (nI i)), some (.int (nI ps.length))] [.int (nI i), .int (nI ps.length), .ref 5] (stH cap keys dp ln (upd mk i (nI Q)) pt sl (nI n) (nI Q)) rfl ?_
    refine aw_iastN rfl rfl ⟨by omega, by omega⟩ ?_
    refine aw_go 3 56 [some (.ref 0), some (.int (nI i)), some (.int (nI ps.length))] [.int ((nI ps.length) + 1)] (stH cap keys dp ln (upd mk i (nI Q)) (upd pt ps.length (nI i)) sl (nI n) (nI Q)) rfl ?_
    exact aw_iret rfl rfl rfl ⟨upd mk i (nI Q), upd pt ps.length (nI i), [i], hP.push hi hni, hM.put i, by simp, fun y hy => List.mem_singleton.mp hy, by rw [List.length_append]; exact congrArg _ (congrArg _ (nI_1 _)), rfl⟩ rfl (Nat.le_refl _) (Nat.le_refl _) -- [.int ((nI ps.length) + 1)] (stH cap keys dp ln (upd mk i (nI Q)) (upd pt ps.length (nI i)) sl (nI n) (nI Q))
set_option maxHeartbeats 2000000 in
set_option maxRecDepth 100000 in
theorem c_St_countParts (l : Launch) (cap n : Nat) (keys : Nat → Int64) (dp ln mk pt sl : Nat → Int32) (e0 : Nat) (t : Nat → Tr) (h : st_ok cap n e0 keys dp ln sl t) (o : Nat) (ho : o < n) (Q : Nat) (hM : st_mk cap mk (nI Q) Q) (hQ : Q + 1 < 2 ^ 31) (b : Bool) : Con l y_St_countParts M_St_countParts 3 63 [.ref 0, .int (nI o), .int (rb b)] (stH cap keys dp ln mk pt sl (nI n) (nI Q)) 7 0 0 0 (fun r h' => ∃ (mk2 pt2 : Nat → Int32) (q : Nat), st_mk cap mk2 (nI (Q + 1)) (Q + 1) ∧ cnt_R (t o) b q ∧ r = some (.int (nI q)) ∧ h' = stH cap keys dp ln mk2 pt2 sl (nI n) (nI (Q + 1))) := by
  have hcap := h.1.cap
  have hn := h.1.2.1
  refine Con.ent ok_St_countParts (by decide +kernel) rfl ?_
  intro pA eA sA mA argsA belowA methA cA GA μA
  refine aw_go 6 10 [some (.ref 0), some (.int (nI o)), some (.int (rb b)), none, none, none, none, none] [] (stH cap keys dp ln mk pt sl (nI n) ((nI Q) + 1)) rfl ?_
  rw [← nI_succ]
  refine aw_go 3 13 [some (.ref 0), some (.int (nI o)), some (.int (rb b)), none, none, none, none, none] [.int 0, .int (nI o), .ref 0] (stH cap keys dp ln mk pt sl (nI n) (nI (Q + 1))) rfl ?_
  refine aw_cV [0, 1, 2, 3, 4, 5, 6] (c_St_addPart l cap n keys dp ln mk pt sl e0 t h o ho (Q + 1) [] (pt_R.new hM hn hQ) hM.next) rfl cw_St_102 rfl rfl rfl rfl rfl rfl (Nat.le_refl _) (Nat.le_refl _) (fun r h' hp => ?_)
  obtain ⟨mk2, pt2, e1, p1, p2, p3, p4, rfl, rfl⟩ := hp
  refine aw_go 5 23 [some (.ref 0), some (.int (nI o)), some (.int (rb b)), some (.int (nI ([] ++ e1).length)), some (.int 0), some (.int 0), none, none] [] (stH cap keys dp ln mk2 pt2 sl (nI n) (nI (Q + 1))) rfl ?_
  refine aw_loop (σ := Nat × Nat × List Nat × (Nat → Int32) × (Nat → Int32)) (fun y => pt_I t o b y.1 y.2.1 y.2.2.1 ∧ pt_R n y.2.2.2.1 y.2.2.2.2 (nI (Q + 1)) y.2.2.1 ∧ st_mk cap y.2.2.2.1 (nI (Q + 1)) (Q + 1)) (fun y => n - y.1) (fun y => [some (.ref 0), some (.int (nI o)), some (.int (rb b)), some (.int (nI y.2.2.1.length)), some (.int (nI y.2.1)), some (.int (nI y.1)), none, none]) (fun _ => []) (fun y => stH cap keys dp ln y.2.2.2.1 y.2.2.2.2 sl (nI n) (nI (Q + 1))) ?_ (0, 0, [] ++ e1, mk2, pt2) ⟨⟨Nat.zero_le _, p3, fun x hx => by rw [p4 x hx]; exact tr_sub_self _, fun m hm => absurd hm (Nat.not_lt_zero m), rfl⟩, p1, p2⟩
  rintro ⟨k, c, ps, mk', pt'⟩ ⟨hI, hP, hM'⟩ ih
  dsimp only at hI hP hM' ih ⊢
  have hle := pt_R.le hP
  have hkl := hI.1
  refine aw_go 2 26 [some (.ref 0), some (.int (nI o)), some (.int (rb b)), some (.int (nI ps.length)), some (.int (nI c)), some (.int (nI k)), none, none] [.int (nI ps.length), .int (nI k)] (stH cap keys dp ln mk' pt' sl (nI n) (nI (Q + 1))) rfl ?_
  refine aw_cmp_ge rfl (fun h26 => ?_) (fun h26 => ?_)
  · refine aw_go 1 102 [some (.ref 0), some (.int (nI o)), some (.int (rb b)), some (.int (nI ps.length)), some (.int (nI c)), some (.int (nI k)), none, none] [.int (nI c)] (stH cap keys dp ln mk' pt' sl (nI n) (nI (Q + 1))) rfl ?_
    exact aw_iret rfl rfl rfl ⟨mk', pt', c, hM', hI.fin h hP (by have h9 : ¬ k < ps.length := (fun z => nI_ge z (by omega) h26); have := hI.1; omega), rfl, rfl⟩ rfl (Nat.le_refl _) (Nat.le_refl _) -- [.int (nI c)] (stH cap keys dp ln mk' pt' sl (nI n) (nI (Q + 1)))
  · have hk : k < ps.length := Nat.not_le.mp fun z => h26 (nI_le z (by omega))
    refine aw_go 4 36 [some (.ref 0), some (.int (nI o)), some (.int (rb b)), some (.int (nI ps.length)), some (.int (nI c)), some (.int (nI k)), none, none] [.int (nI cap), .int (nI k)] (stH cap keys dp ln mk' pt' sl (nI n) (nI (Q + 1))) rfl ?_
    refine aw_cmp_ge rfl (fun h36 => absurd h36 (nI_ge (by omega) (by omega))) (fun h36 => ?_)
    refine aw_go 3 45 [some (.ref 0), some (.int (nI o)), some (.int (rb b)), some (.int (nI ps.length)), some (.int (nI c)), some (.int (nI k)), none, none] [.int (nI k), .ref 5] (stH cap keys dp ln mk' pt' sl (nI n) (nI (Q + 1))) rfl ?_
    refine aw_ialdN rfl rfl ⟨by omega, by omega⟩ ?_
    obtain ⟨x, hxe⟩ : ∃ x, ps.getD k 0 = x := ⟨_, rfl⟩
    have hxm : x ∈ ps := by rw [← hxe]; exact nd_mem hk
    have hx := hP.2.1 x hxm
    rw [show pt' k = nI x from (by rw [hP.2.2.2 k hk, hxe])]
    refine aw_go 3 51 [some (.ref 0), some (.int (nI o)), some (.int (rb b)), some (.int (nI ps.length)), some (.int (nI c)), some (.int (nI k)), some (.int (nI x)), none] [.int (nI x), .ref 0] (stH cap keys dp ln mk' pt' sl (nI n) (nI (Q + 1))) rfl ?_
    refine aw_cV [0, 1, 2, 3, 4, 5, 6] (c_St_ip l cap n keys dp ln mk' pt' sl (nI (Q + 1)) e0 t h x hx) rfl cw_St_84 rfl rfl rfl rfl rfl rfl (Nat.le_refl _) (Nat.le_refl _) (fun r h' hp => ?_)
    obtain ⟨rfl, rfl⟩ := hp
    refine aw_go 1 56 [some (.ref 0), some (.int (nI o)), some (.int (rb b)), some (.int (nI ps.length)), some (.int (nI c)), some (.int (nI k)), some (.int (nI x)), some (.int (rb (tr_isp (t x))))] [] (stH cap keys dp ln mk' pt' sl (nI n) (nI (Q + 1))) rfl ?_
    rcases hTx : t x with cc | ⟨A, B⟩
    · refine aw_go 1 58 [some (.ref 0), some (.int (nI o)), some (.int (rb b)), some (.int (nI ps.length)), some (.int (nI c)), some (.int (nI k)), some (.int (nI x)), some (.int 0)] [.int 0] (stH cap keys dp ln mk' pt' sl (nI n) (nI (Q + 1))) rfl ?_
      refine aw_if_eq rfl (fun h58 => ?_) (fun h58 => absurd h58 (by decide))
      refine aw_go 1 87 [some (.ref 0), some (.int (nI o)), some (.int (rb b)), some (.int (nI ps.length)), some (.int (nI c)), some (.int (nI k)), some (.int (nI x)), some (.int 0)] [.int 0] (stH cap keys dp ln mk' pt' sl (nI n) (nI (Q + 1))) rfl ?_
      cases b
      · refine aw_go 1 88 [some (.ref 0), some (.int (nI o)), some (.int 0), some (.int (nI ps.length)), some (.int (nI c)), some (.int (nI k)), some (.int (nI x)), some (.int 0)] [.int 0, .int 0] (stH cap keys dp ln mk' pt' sl (nI n) (nI (Q + 1))) rfl ?_
        refine aw_cmp_ne rfl (fun h88 => absurd h88 (by decide)) (fun h88 => ?_)
        refine aw_go 1 94 [some (.ref 0), some (.int (nI o)), some (.int 0), some (.int (nI ps.length)), some (.int ((nI c) + 1)), some (.int (nI k)), some (.int (nI x)), some (.int 0)] [] (stH cap keys dp ln mk' pt' sl (nI n) (nI (Q + 1))) rfl ?_
        refine aw_go 2 23 [some (.ref 0), some (.int (nI o)), some (.int 0), some (.int (nI ps.length)), some (.int ((nI c) + 1)), some (.int ((nI k) + 1)), some (.int (nI x)), some (.int 0)] [] (stH cap keys dp ln mk' pt' sl (nI n) (nI (Q + 1))) rfl ?_
        -- LOOP 23: [some (.ref 0), some (.int (nI o)), some (.int 0), some (.int (nI ps.length)), some (.int ((nI c) + 1)), some (.int ((nI k) + 1)), some (.int (nI x)), some (.int 0)] [] (stH cap keys dp ln mk' pt' sl (nI n) (nI (Q + 1)))
        exact aw_mask [true, true, true, true, true, true, false, false] (aw_eq (by simp only [nI_succ]; rfl) rfl rfl (ih (k + 1, c + 1, ps, mk', pt') ⟨by have hh := hI.step hk [] (fun y hy => nomatch hy) (fun A B z => by rw [hxe, hTx] at z; cases z); rw [List.append_nil, hxe, hTx] at hh; exact hh, hP, hM'⟩ (by show n - (k + 1) < n - k; omega)))
      · refine aw_go 1 88 [some (.ref 0), some (.int (nI o)), some (.int 1), some (.int (nI ps.length)), some (.int (nI c)), some (.int (nI k)), some (.int (nI x)), some (.int 0)] [.int 1, .int 0] (stH cap keys dp ln mk' pt' sl (nI n) (nI (Q + 1))) rfl ?_
        refine aw_cmp_ne rfl (fun h88 => ?_) (fun h88 => absurd h88 (by decide))
        refine aw_go 2 23 [some (.ref 0), some (.int (nI o)), some (.int 1), some (.int (nI ps.length)), some (.int (nI c)), some (.int ((nI k) + 1)), some (.int (nI x)), some (.int 0)] [] (stH cap keys dp ln mk' pt' sl (nI n) (nI (Q + 1))) rfl ?_
        -- LOOP 23: [some (.ref 0), some (.int (nI o)), some (.int 1), some (.int (nI ps.length)), some (.int (nI c)), some (.int ((nI k) + 1)), some (.int (nI x)), some (.int 0)] [] (stH cap keys dp ln mk' pt' sl (nI n) (nI (Q + 1)))
        exact aw_mask [true, true, true, true, true, true, false, false] (aw_eq (by simp only [nI_succ]; rfl) rfl rfl (ih (k + 1, c, ps, mk', pt') ⟨by have hh := hI.step hk [] (fun y hy => nomatch hy) (fun A B z => by rw [hxe, hTx] at z; cases z); rw [List.append_nil, hxe, hTx] at hh; exact hh, hP, hM'⟩ (by show n - (k + 1) < n - k; omega)))
    · refine aw_go 1 58 [some (.ref 0), some (.int (nI o)), some (.int (rb b)), some (.int (nI ps.length)), some (.int (nI c)), some (.int (nI k)), some (.int (nI x)), some (.int 1)] [.int 1] (stH cap keys dp ln mk' pt' sl (nI n) (nI (Q + 1))) rfl ?_
      refine aw_if_eq rfl (fun h58 => absurd h58 (by decide)) (fun h58 => ?_)
      refine aw_go 3 65 [some (.ref 0), some (.int (nI o)), some (.int (rb b)), some (.int (nI ps.length)), some (.int (nI c)), some (.int (nI k)), some (.int (nI x)), some (.int 1)] [.int (nI x), .ref 0, .ref 0] (stH cap keys dp ln mk' pt' sl (nI n) (nI (Q + 1))) rfl ?_
      refine aw_cV [0, 1, 2, 3, 4, 5, 6] (c_St_fst l cap n keys dp ln mk' pt' sl (nI (Q + 1)) e0 t h x hx A B hTx) rfl cw_St_93 rfl rfl rfl rfl rfl rfl (Nat.le_refl _) (Nat.le_refl _) (fun r h' hp => ?_)
      obtain ⟨a, ha, hta, rfl, rfl⟩ := hp
      refine aw_go 1 69 [some (.ref 0), some (.int (nI o)), some (.int (rb b)), some (.int (nI ps.length)), some (.int (nI c)), some (.int (nI k)), some (.int (nI x)), some (.int 1)] [.int (nI ps.length), .int (nI a), .ref 0] (stH cap keys dp ln mk' pt' sl (nI n) (nI (Q + 1))) rfl ?_
      refine aw_cV [0, 1, 2, 3, 4, 5, 6] (c_St_addPart l cap n keys dp ln mk' pt' sl e0 t h a (by omega) (Q + 1) ps hP hM') rfl cw_St_102 rfl rfl rfl rfl rfl rfl (Nat.le_refl _) (Nat.le_refl _) (fun r h' hp => ?_)
      obtain ⟨mk2, pt2, e1, p1, p2, p3, p4, rfl, rfl⟩ := hp
      refine aw_go 4 77 [some (.ref 0), some (.int (nI o)), some (.int (rb b)), some (.int (nI (ps ++ e1).length)), some (.int (nI c)), some (.int (nI k)), some (.int (nI x)), some (.int 1)] [.int (nI x), .ref 0, .ref 0] (stH cap keys dp ln mk2 pt2 sl (nI n) (nI (Q + 1))) rfl ?_
      refine aw_cV [0, 1, 2, 3, 4, 5, 6] (c_St_snd l cap n keys dp ln mk2 pt2 sl (nI (Q + 1)) e0 t h x hx A B hTx) rfl cw_St_96 rfl rfl rfl rfl rfl rfl (Nat.le_refl _) (Nat.le_refl _) (fun r h' hp => ?_)
      obtain ⟨a2, ha2, hta2, rfl, rfl⟩ := hp
      refine aw_go 1 81 [some (.ref 0), some (.int (nI o)), some (.int (rb b)), some (.int (nI (ps ++ e1).length)), some (.int (nI c)), some (.int (nI k)), some (.int (nI x)), some (.int 1)] [.int (nI (ps ++ e1).length), .int (nI a2), .ref 0] (stH cap keys dp ln mk2 pt2 sl (nI n) (nI (Q + 1))) rfl ?_
      refine aw_cV [0, 1, 2, 3, 4, 5, 6] (c_St_addPart l cap n keys dp ln mk2 pt2 sl e0 t h a2 (by omega) (Q + 1) (ps ++ e1) p1 p2) rfl cw_St_102 rfl rfl rfl rfl rfl rfl (Nat.le_refl _) (Nat.le_refl _) (fun r h' hp => ?_)
      obtain ⟨mk3, pt3, e2, q1, q2, q3, q4, rfl, rfl⟩ := hp
      have hxs := hI.2.2.1 x hxm
      rw [hTx] at hxs
      have hsub : ∀ y ∈ e1 ++ e2, t y ∈ tr_sub (t o) := by
        intro y hy
        rcases List.mem_append.mp hy with z | z
        · rw [p4 y z, hta]; exact (tr_sub_ch hxs).1
        · rw [q4 y z, hta2]; exact (tr_sub_ch hxs).2
      have hch : ∀ A' B', t (ps.getD k 0) = .op A' B' → (∃ a ∈ ps ++ (e1 ++ e2), t a = A') ∧ (∃ a ∈ ps ++ (e1 ++ e2), t a = B') := by
        intro A' B' z
        rw [hxe, hTx] at z
        cases z
        rw [← List.append_assoc]
        exact ⟨⟨a, List.mem_append_left _ p3, hta⟩, ⟨a2, q3, hta2⟩⟩
      refine aw_go 1 85 [some (.ref 0), some (.int (nI o)), some (.int (rb b)), some (.int (nI (ps ++ e1 ++ e2).length)), some (.int (nI c)), some (.int (nI k)), some (.int (nI x)), some (.int 1)] [] (stH cap keys dp ln mk3 pt3 sl (nI n) (nI (Q + 1))) rfl ?_
      refine aw_go 1 87 [some (.ref 0), some (.int (nI o)), some (.int (rb b)), some (.int (nI (ps ++ e1 ++ e2).length)), some (.int (nI c)), some (.int (nI k)), some (.int (nI x)), some (.int 1)] [.int 1] (stH cap keys dp ln mk3 pt3 sl (nI n) (nI (Q + 1))) rfl ?_
      cases b
      · refine aw_go 1 88 [some (.ref 0), some (.int (nI o)), some (.int 0), some (.int (nI (ps ++ e1 ++ e2).length)), some (.int (nI c)), some (.int (nI k)), some (.int (nI x)), some (.int 1)] [.int 0, .int 1] (stH cap keys dp ln mk3 pt3 sl (nI n) (nI (Q + 1))) rfl ?_
        refine aw_cmp_ne rfl (fun h88 => ?_) (fun h88 => absurd h88 (by decide))
        refine aw_go 2 23 [some (.ref 0), some (.int (nI o)), some (.int 0), some (.int (nI (ps ++ e1 ++ e2).length)), some (.int (nI c)), some (.int ((nI k) + 1)), some (.int (nI x)), some (.int 1)] [] (stH cap keys dp ln mk3 pt3 sl (nI n) (nI (Q + 1))) rfl ?_
        -- LOOP 23: [some (.ref 0), some (.int (nI o)), some (.int 0), some (.int (nI (ps ++ e1 ++ e2).length)), some (.int (nI c)), some (.int ((nI k) + 1)), some (.int (nI x)), some (.int 1)] [] (stH cap keys dp ln mk3 pt3 sl (nI n) (nI (Q + 1)))
        exact aw_mask [true, true, true, true, true, true, false, false] (aw_eq (by simp only [nI_succ, ← List.append_assoc]; rfl) rfl rfl (ih (k + 1, c, ps ++ (e1 ++ e2), mk3, pt3) ⟨by have hh := hI.step hk (e1 ++ e2) hsub hch; rw [hxe, hTx] at hh; exact hh, by show pt_R n mk3 pt3 _ (ps ++ (e1 ++ e2)); rw [← List.append_assoc]; exact q1, q2⟩ (by show n - (k + 1) < n - k; omega)))
      · refine aw_go 1 88 [some (.ref 0), some (.int (nI o)), some (.int 1), some (.int (nI (ps ++ e1 ++ e2).length)), some (.int (nI c)), some (.int (nI k)), some (.int (nI x)), some (.int 1)] [.int 1, .int 1] (stH cap keys dp ln mk3 pt3 sl (nI n) (nI (Q + 1))) rfl ?_
        refine aw_cmp_ne rfl (fun h88 => absurd h88 (by decide)) (fun h88 => ?_)
        refine aw_go 1 94 [some (.ref 0), some (.int (nI o)), some (.int 1), some (.int (nI (ps ++ e1 ++ e2).length)), some (.int ((nI c) + 1)), some (.int (nI k)), some (.int (nI x)), some (.int 1)] [] (stH cap keys dp ln mk3 pt3 sl (nI n) (nI (Q + 1))) rfl ?_
        refine aw_go 2 23 [some (.ref 0), some (.int (nI o)), some (.int 1), some (.int (nI (ps ++ e1 ++ e2).length)), some (.int ((nI c) + 1)), some (.int ((nI k) + 1)), some (.int (nI x)), some (.int 1)] [] (stH cap keys dp ln mk3 pt3 sl (nI n) (nI (Q + 1))) rfl ?_
        -- LOOP 23: [some (.ref 0), some (.int (nI o)), some (.int 1), some (.int (nI (ps ++ e1 ++ e2).length)), some (.int ((nI c) + 1)), some (.int ((nI k) + 1)), some (.int (nI x)), some (.int 1)] [] (stH cap keys dp ln mk3 pt3 sl (nI n) (nI (Q + 1)))
        exact aw_mask [true, true, true, true, true, true, false, false] (aw_eq (by simp only [nI_succ, ← List.append_assoc]; rfl) rfl rfl (ih (k + 1, c + 1, ps ++ (e1 ++ e2), mk3, pt3) ⟨by have hh := hI.step hk (e1 ++ e2) hsub hch; rw [hxe, hTx] at hh; exact hh, by show pt_R n mk3 pt3 _ (ps ++ (e1 ++ e2)); rw [← List.append_assoc]; exact q1, q2⟩ (by show n - (k + 1) < n - k; omega)))
