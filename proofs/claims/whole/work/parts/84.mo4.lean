/-! the model: deliver, close -/
theorem mb {x : Fr} {r : List Fr} {dT : Option Tr} : mo_may (x :: r) dT = (x.1 || decide (x.2.1 ≤ 1)) := by
  show rd_cs 2 (fr_sg x) = _
  cases hx : x.1 with
  | true =>
    rw [show fr_sg x = 2 from if_pos hx]
    rfl
  | false =>
    have h0 : fr_sg x = if x.2.1 = 0 then (if x.2.2.1.isEmpty = true then 3 else 4) else if x.2.1 = 1 then 5 else 6 := if_neg (by rw [hx]; decide)
    rcases (show x.2.1 = 0 ∨ x.2.1 = 1 ∨ 2 ≤ x.2.1 by omega) with z | z | z
    · rw [if_pos z] at h0
      rw [z]
      by_cases y : x.2.2.1.isEmpty = true
      · rw [if_pos y] at h0
        rw [h0]
        rfl
      · rw [if_neg y] at h0
        rw [h0]
        rfl
    · rw [if_neg (by omega), if_pos z] at h0
      rw [h0, z]
      rfl
    · rw [if_neg (by omega), if_neg (by omega)] at h0
      rw [h0, show decide (x.2.1 ≤ 1) = false from decide_eq_false (by omega)]
      rfl
theorem mb0 {dT : Option Tr} : mo_may [] dT = !dT.isSome := by cases dT <;> rfl
theorem rb_1 {b : Bool} (h : rb b = 1) : b = true := by
  cases b with
  | true => rfl
  | false => exact absurd h (by decide)
theorem rb_0 {b : Bool} (h : rb b = 0) : b = false := by
  cases b with
  | false => rfl
  | true => exact absurd h (by decide)
theorem rb_n1 {b : Bool} (h : ¬ rb b = 1) : b = false := by
  cases b with
  | false => rfl
  | true => exact absurd rfl h
theorem rb_n0 {b : Bool} (h : ¬ rb b = 0) : b = true := by
  cases b with
  | true => rfl
  | false => exact absurd rfl h
def mo_inl : List Fr → Bool
  | [] => false
  | x :: _ => !x.1
theorem mo_lt2 {z : Nat} (hz : z ≤ 2) : (2 ≤ nI z → ¬ z ≤ 1) ∧ (¬ 2 ≤ nI z → z ≤ 1) := ⟨fun h => by have := (nI_leI (a := 2) (by omega) (by omega)).mp h; omega, fun h => by have : ¬ 2 ≤ z := fun y => h (nI_le (a := 2) y (by omega)); omega⟩
set_option maxHeartbeats 2000000 in
set_option maxRecDepth 100000 in
theorem c_Mo_mayBegin (l : Launch) (lf rt nx sz hg : Nat → Int32) (nu : Nat → Int64) (hd : Nat → Int32) (cn : Int32) (nm le : Nat → Int32) (sy : Int32) (pl wa tx : Nat → Int32) (ts : Int32) (ou : Nat → Int32) (os : Int32) (wd : Nat → Int32) (ws : Int32) (tw : Nat → Int32) (tg : Int32) (o1 : Nat → Int32) (s1 atp rf rp : Int32) (pS pF pT pL it : Nat → Int32) (wh dn : Int32) (wk me : Nat → Int32) (sh : Int32) (ot : Nat → Int32) (n : Nat) (t : Nat → Tr) (fs : List Fr) (dT : Option Tr) (hR : mr_R n t pS pF pT pL it (nI fs.length) (nI (fs_it fs).length) wh dn fs dT) : Con l y_Mo_mayBegin M_Mo_mayBegin 0 0 [.ref 0] (moH lf rt nx sz hg nu hd cn nm le sy pl wa tx ts ou os wd ws tw tg o1 s1 atp rf rp pS pF pT pL (nI fs.length) it (nI (fs_it fs).length) wh dn wk me sh ot) 25 0 0 0 (fun r h' => r = some (.int (rb (mo_may fs dT))) ∧ h' = moH lf rt nx sz hg nu hd cn nm le sy pl wa tx ts ou os wd ws tw tg o1 s1 atp rf rp pS pF pT pL (nI fs.length) it (nI (fs_it fs).length) wh dn wk me sh ot) := by
  refine Con.ent ok_Mo_mayBegin (by decide +kernel) rfl ?_
  intro pA eA sA mA argsA belowA methA cA GA μA
  refine aw_go 2 4 [some (.ref 0)] [.int (nI fs.length)] (moH lf rt nx sz hg nu hd cn nm le sy pl wa tx ts ou os wd ws tw tg o1 s1 atp rf rp pS pF pT pL (nI fs.length) it (nI (fs_it fs).length) wh dn wk me sh ot) rfl ?_
  rcases fs with _ | ⟨x, r⟩
  · skip
    refine aw_go 0 4 [some (.ref 0)] [.int 0] (moH lf rt nx sz hg nu hd cn nm le sy pl wa tx ts ou os wd ws tw tg o1 s1 atp rf rp pS pF pT pL 0 it (nI (fs_it []).length) wh dn wk me sh ot) rfl ?_
    refine aw_if_ne rfl (fun h4 => absurd h4 (by decide)) (fun h4 => ?_)
    refine aw_go 2 11 [some (.ref 0)] [.int dn] (moH lf rt nx sz hg nu hd cn nm le sy pl wa tx ts ou os wd ws tw tg o1 s1 atp rf rp pS pF pT pL 0 it (nI (fs_it []).length) wh dn wk me sh ot) rfl ?_
    refine aw_if_ne rfl (fun h11 => ?_) (fun h11 => ?_)
    · refine aw_go 2 57 [some (.ref 0)] [.int 0] (moH lf rt nx sz hg nu hd cn nm le sy pl wa tx ts ou os wd ws tw tg o1 s1 atp rf rp pS pF pT pL 0 it (nI (fs_it []).length) wh dn wk me sh ot) rfl ?_
      exact aw_iret rfl (by decide) rfl ⟨by rw [mb0, rb_n0 (b := dT.isSome) (by rw [← hR.2.2.2.2.2.2.1]; exact h11)]; rfl, rfl⟩ rfl (Nat.le_refl _) (Nat.le_refl _) -- [.int 0] (moH lf rt nx sz hg nu hd cn nm le sy pl wa tx ts ou os wd ws tw tg o1 s1 atp rf rp pS pF pT pL 0 it (nI (fs_it []).length) wh dn wk me sh ot)
    · refine aw_go 2 57 [some (.ref 0)] [.int 1] (moH lf rt nx sz hg nu hd cn nm le sy pl wa tx ts ou os wd ws tw tg o1 s1 atp rf rp pS pF pT pL 0 it (nI (fs_it []).length) wh dn wk me sh ot) rfl ?_
      exact aw_iret rfl (by decide) rfl ⟨by rw [mb0, rb_0 (b := dT.isSome) (by rw [← hR.2.2.2.2.2.2.1]; exact h11)]; rfl, rfl⟩ rfl (Nat.le_refl _) (Nat.le_refl _) -- [.int 1] (moH lf rt nx sz hg nu hd cn nm le sy pl wa tx ts ou os wd ws tw tg o1 s1 atp rf rp pS pF pT pL 0 it (nI (fs_it []).length) wh dn wk me sh ot)
  · have hlen : r.length + 1 ≤ 40 := hR.2.1
    have hfs := hR.2.2.2.1
    have hok := hR.2.2.1 x List.mem_cons_self
    refine aw_go 0 4 [some (.ref 0)] [.int (nI (r.length + 1))] (moH lf rt nx sz hg nu hd cn nm le sy pl wa tx ts ou os wd ws tw tg o1 s1 atp rf rp pS pF pT pL (nI (r.length + 1)) it (nI (fs_it (x :: r)).length) wh dn wk me sh ot) rfl ?_
    refine aw_if_ne rfl (fun h4 => ?_) (fun h4 => absurd (nI_inj (b := 0) (by omega) (by omega) h4) (by omega))
    refine aw_go 6 32 [some (.ref 0)] [.int ((nI (r.length + 1)) - 1), .ref 17] (moH lf rt nx sz hg nu hd cn nm le sy pl wa tx ts ou os wd ws tw tg o1 s1 atp rf rp pS pF pT pL (nI (r.length + 1)) it (nI (fs_it (x :: r)).length) wh dn wk me sh ot) rfl ?_
    rw [nI_pred]
    refine aw_ialdN rfl rfl ⟨by omega, by omega⟩ ?_
    refine aw_go 1 34 [some (.ref 0)] [.int 1, .int (pS r.length)] (moH lf rt nx sz hg nu hd cn nm le sy pl wa tx ts ou os wd ws tw tg o1 s1 atp rf rp pS pF pT pL (nI (r.length + 1)) it (nI (fs_it (x :: r)).length) wh dn wk me sh ot) rfl ?_
    refine aw_cmp_eq rfl (fun h34 => ?_) (fun h34 => ?_)
    · refine aw_go 2 57 [some (.ref 0)] [.int 1] (moH lf rt nx sz hg nu hd cn nm le sy pl wa tx ts ou os wd ws tw tg o1 s1 atp rf rp pS pF pT pL (nI (r.length + 1)) it (nI (fs_it (x :: r)).length) wh dn wk me sh ot) rfl ?_
      exact aw_iret rfl (by decide) rfl ⟨by rw [mb, rb_1 (b := x.1) (by rw [← hfs.1]; exact h34)]; rfl, rfl⟩ rfl (Nat.le_refl _) (Nat.le_refl _) -- [.int 1] (moH lf rt nx sz hg nu hd cn nm le sy pl wa tx ts ou os wd ws tw tg o1 s1 atp rf rp pS pF pT pL (nI (r.length + 1)) it (nI (fs_it (x :: r)).length) wh dn wk me sh ot)
    · refine aw_go 6 47 [some (.ref 0)] [.int ((nI (r.length + 1)) - 1), .ref 19] (moH lf rt nx sz hg nu hd cn nm le sy pl wa tx ts ou os wd ws tw tg o1 s1 atp rf rp pS pF pT pL (nI (r.length + 1)) it (nI (fs_it (x :: r)).length) wh dn wk me sh ot) rfl ?_
      rw [nI_pred]
      refine aw_ialdN rfl rfl ⟨by omega, by omega⟩ ?_
      rw [hfs.2.2.1]
      refine aw_go 1 49 [some (.ref 0)] [.int 2, .int (nI x.2.1)] (moH lf rt nx sz hg nu hd cn nm le sy pl wa tx ts ou os wd ws tw tg o1 s1 atp rf rp pS pF pT pL (nI (r.length + 1)) it (nI (fs_it (x :: r)).length) wh dn wk me sh ot) rfl ?_
      refine aw_cmp_ge rfl (fun h49 => ?_) (fun h49 => ?_)
      · refine aw_go 1 57 [some (.ref 0)] [.int 0] (moH lf rt nx sz hg nu hd cn nm le sy pl wa tx ts ou os wd ws tw tg o1 s1 atp rf rp pS pF pT pL (nI (r.length + 1)) it (nI (fs_it (x :: r)).length) wh dn wk me sh ot) rfl ?_
        exact aw_iret rfl (by decide) rfl ⟨by rw [mb, rb_n1 (b := x.1) (by rw [← hfs.1]; exact h34), show decide (x.2.1 ≤ 1) = false from decide_eq_false ((mo_lt2 hok.2.1).1 h49)]; rfl, rfl⟩ rfl (Nat.le_refl _) (Nat.le_refl _) -- [.int 0] (moH lf rt nx sz hg nu hd cn nm le sy pl wa tx ts ou os wd ws tw tg o1 s1 atp rf rp pS pF pT pL (nI (r.length + 1)) it (nI (fs_it (x :: r)).length) wh dn wk me sh ot)
      · refine aw_go 2 57 [some (.ref 0)] [.int 1] (moH lf rt nx sz hg nu hd cn nm le sy pl wa tx ts ou os wd ws tw tg o1 s1 atp rf rp pS pF pT pL (nI (r.length + 1)) it (nI (fs_it (x :: r)).length) wh dn wk me sh ot) rfl ?_
        exact aw_iret rfl (by decide) rfl ⟨by rw [mb, rb_n1 (b := x.1) (by rw [← hfs.1]; exact h34), show decide (x.2.1 ≤ 1) = true from decide_eq_true ((mo_lt2 hok.2.1).2 h49)]; rfl, rfl⟩ rfl (Nat.le_refl _) (Nat.le_refl _) -- [.int 1] (moH lf rt nx sz hg nu hd cn nm le sy pl wa tx ts ou os wd ws tw tg o1 s1 atp rf rp pS pF pT pL (nI (r.length + 1)) it (nI (fs_it (x :: r)).length) wh dn wk me sh ot)
set_option maxHeartbeats 2000000 in
set_option maxRecDepth 100000 in
theorem c_Mo_isInList (l : Launch) (lf rt nx sz hg : Nat → Int32) (nu : Nat → Int64) (hd : Nat → Int32) (cn : Int32) (nm le : Nat → Int32) (sy : Int32) (pl wa tx : Nat → Int32) (ts : Int32) (ou : Nat → Int32) (os : Int32) (wd : Nat → Int32) (ws : Int32) (tw : Nat → Int32) (tg : Int32) (o1 : Nat → Int32) (s1 atp rf rp : Int32) (pS pF pT pL it : Nat → Int32) (wh dn : Int32) (wk me : Nat → Int32) (sh : Int32) (ot : Nat → Int32) (n : Nat) (t : Nat → Tr) (fs : List Fr) (dT : Option Tr) (hR : mr_R n t pS pF pT pL it (nI fs.length) (nI (fs_it fs).length) wh dn fs dT) : Con l y_Mo_isInList M_Mo_isInList 0 0 [.ref 0] (moH lf rt nx sz hg nu hd cn nm le sy pl wa tx ts ou os wd ws tw tg o1 s1 atp rf rp pS pF pT pL (nI fs.length) it (nI (fs_it fs).length) wh dn wk me sh ot) 25 0 0 0 (fun r h' => r = some (.int (rb (mo_inl fs))) ∧ h' = moH lf rt nx sz hg nu hd cn nm le sy pl wa tx ts ou os wd ws tw tg o1 s1 atp rf rp pS pF pT pL (nI fs.length) it (nI (fs_it fs).length) wh dn wk me sh ot) := by
  refine Con.ent ok_Mo_isInList (by decide +kernel) rfl ?_
  intro pA eA sA mA argsA belowA methA cA GA μA
  refine aw_go 2 4 [some (.ref 0)] [.int (nI fs.length)] (moH lf rt nx sz hg nu hd cn nm le sy pl wa tx ts ou os wd ws tw tg o1 s1 atp rf rp pS pF pT pL (nI fs.length) it (nI (fs_it fs).length) wh dn wk me sh ot) rfl ?_
  rcases fs with _ | ⟨x, r⟩
  · skip
    refine aw_go 0 4 [some (.ref 0)] [.int 0] (moH lf rt nx sz hg nu hd cn nm le sy pl wa tx ts ou os wd ws tw tg o1 s1 atp rf rp pS pF pT pL 0 it (nI (fs_it []).length) wh dn wk me sh ot) rfl ?_
    refine aw_if_le rfl (fun h4 => ?_) (fun h4 => absurd h4 (by decide))
    refine aw_go 1 26 [some (.ref 0)] [.int 0] (moH lf rt nx sz hg nu hd cn nm le sy pl wa tx ts ou os wd ws tw tg o1 s1 atp rf rp pS pF pT pL 0 it (nI (fs_it []).length) wh dn wk me sh ot) rfl ?_
    exact aw_iret rfl (by decide) rfl ⟨rfl, rfl⟩ rfl (Nat.le_refl _) (Nat.le_refl _) -- [.int 0] (moH lf rt nx sz hg nu hd cn nm le sy pl wa tx ts ou os wd ws tw tg o1 s1 atp rf rp pS pF pT pL 0 it (nI (fs_it []).length) wh dn wk me sh ot)
  · have hlen : r.length + 1 ≤ 40 := hR.2.1
    have hfs := hR.2.2.2.1
    have hok := hR.2.2.1 x List.mem_cons_self
    refine aw_go 0 4 [some (.ref 0)] [.int (nI (r.length + 1))] (moH lf rt nx sz hg nu hd cn nm le sy pl wa tx ts ou os wd ws tw tg o1 s1 atp rf rp pS pF pT pL (nI (r.length + 1)) it (nI (fs_it (x :: r)).length) wh dn wk me sh ot) rfl ?_
    refine aw_if_le rfl (fun h4 => absurd (le_n (k := 0) (by omega) (by omega) h4) (by omega)) (fun h4 => ?_)
    refine aw_go 6 17 [some (.ref 0)] [.int ((nI (r.length + 1)) - 1), .ref 17] (moH lf rt nx sz hg nu hd cn nm le sy pl wa tx ts ou os wd ws tw tg o1 s1 atp rf rp pS pF pT pL (nI (r.length + 1)) it (nI (fs_it (x :: r)).length) wh dn wk me sh ot) rfl ?_
    rw [nI_pred]
    refine aw_ialdN rfl rfl ⟨by omega, by omega⟩ ?_
    refine aw_if_ne rfl (fun h18 => ?_) (fun h18 => ?_)
    · refine aw_go 1 26 [some (.ref 0)] [.int 0] (moH lf rt nx sz hg nu hd cn nm le sy pl wa tx ts ou os wd ws tw tg o1 s1 atp rf rp pS pF pT pL (nI (r.length + 1)) it (nI (fs_it (x :: r)).length) wh dn wk me sh ot) rfl ?_
      exact aw_iret rfl (by decide) rfl ⟨by rw [show mo_inl (x :: r) = !x.1 from rfl, rb_n0 (b := x.1) (by rw [← hfs.1]; exact h18)]; rfl, rfl⟩ rfl (Nat.le_refl _) (Nat.le_refl _) -- [.int 0] (moH lf rt nx sz hg nu hd cn nm le sy pl wa tx ts ou os wd ws tw tg o1 s1 atp rf rp pS pF pT pL (nI (r.length + 1)) it (nI (fs_it (x :: r)).length) wh dn wk me sh ot)
    · refine aw_go 2 26 [some (.ref 0)] [.int 1] (moH lf rt nx sz hg nu hd cn nm le sy pl wa tx ts ou os wd ws tw tg o1 s1 atp rf rp pS pF pT pL (nI (r.length + 1)) it (nI (fs_it (x :: r)).length) wh dn wk me sh ot) rfl ?_
      exact aw_iret rfl (by decide) rfl ⟨by rw [show mo_inl (x :: r) = !x.1 from rfl, rb_0 (b := x.1) (by rw [← hfs.1]; exact h18)]; rfl, rfl⟩ rfl (Nat.le_refl _) (Nat.le_refl _) -- [.int 1] (moH lf rt nx sz hg nu hd cn nm le sy pl wa tx ts ou os wd ws tw tg o1 s1 atp rf rp pS pF pT pL (nI (r.length + 1)) it (nI (fs_it (x :: r)).length) wh dn wk me sh ot)
set_option maxHeartbeats 2000000 in
set_option maxRecDepth 100000 in
theorem c_Mo_begin (l : Launch) (lf rt nx sz hg : Nat → Int32) (nu : Nat → Int64) (hd : Nat → Int32) (cn : Int32) (nm le : Nat → Int32) (sy : Int32) (pl wa tx : Nat → Int32) (ts : Int32) (ou : Nat → Int32) (os : Int32) (wd : Nat → Int32) (ws : Int32) (tw : Nat → Int32) (tg : Int32) (o1 : Nat → Int32) (s1 atp rf rp : Int32) (pS pF pT pL it : Nat → Int32) (isz wh dn : Int32) (wk me : Nat → Int32) (sh : Int32) (ot : Nat → Int32) (k : Nat) (hk : k < 40) (b : Int32) : Con l y_Mo_begin M_Mo_begin 0 0 [.ref 0, .int b] (moH lf rt nx sz hg nu hd cn nm le sy pl wa tx ts ou os wd ws tw tg o1 s1 atp rf rp pS pF pT pL (nI k) it isz wh dn wk me sh ot) 25 0 0 0 (fun r h' => r = none ∧ h' = moH lf rt nx sz hg nu hd cn nm le sy pl wa tx ts ou os wd ws tw tg o1 s1 atp rf rp (upd pS k b) (upd pF k isz) (upd pT k 0) pL (nI (k + 1)) it isz wh dn wk me sh ot) := by
  refine Con.ent ok_Mo_begin (by decide +kernel) rfl ?_
  intro pA eA sA mA argsA belowA methA cA GA μA
  refine aw_go 5 9 [some (.ref 0), some (.int b)] [.int b, .int (nI k), .ref 17] (moH lf rt nx sz hg nu hd cn nm le sy pl wa tx ts ou os wd ws tw tg o1 s1 atp rf rp pS pF pT pL (nI k) it isz wh dn wk me sh ot) rfl ?_
  refine aw_iastN rfl rfl ⟨by omega, by omega⟩ ?_
  refine aw_go 6 22 [some (.ref 0), some (.int b)] [.int isz, .int (nI k), .ref 18] (moH lf rt nx sz hg nu hd cn nm le sy pl wa tx ts ou os wd ws tw tg o1 s1 atp rf rp (upd pS k b) pF pT pL (nI k) it isz wh dn wk me sh ot) rfl ?_
  refine aw_iastN rfl rfl ⟨by omega, by omega⟩ ?_
  refine aw_go 5 32 [some (.ref 0), some (.int b)] [.int 0, .int (nI k), .ref 19] (moH lf rt nx sz hg nu hd cn nm le sy pl wa tx ts ou os wd ws tw tg o1 s1 atp rf rp (upd pS k b) (upd pF k isz) pT pL (nI k) it isz wh dn wk me sh ot) rfl ?_
  refine aw_iastN rfl rfl ⟨by omega, by omega⟩ ?_
  refine aw_go 6 43 [some (.ref 0), some (.int b)] [] (moH lf rt nx sz hg nu hd cn nm le sy pl wa tx ts ou os wd ws tw tg o1 s1 atp rf rp (upd pS k b) (upd pF k isz) (upd pT k 0) pL ((nI k) + 1) it isz wh dn wk me sh ot) rfl ?_
  exact aw_vret rfl rfl ⟨rfl, by rw [nI_succ]⟩ rfl (Nat.le_refl _) (Nat.le_refl _) -- [] (moH lf rt nx sz hg nu hd cn nm le sy pl wa tx ts ou os wd ws tw tg o1 s1 atp rf rp (upd pS k b) (upd pF k isz) (upd pT k 0) pL ((nI k) + 1) it isz wh dn wk me sh ot)
set_option maxHeartbeats 2000000 in
set_option maxRecDepth 100000 in
theorem c_Mo_deliver (l : Launch) (lf rt nx sz hg : Nat → Int32) (nu : Nat → Int64) (hd nm le pl wa tx : Nat → Int32) (ts : Int32) (ou : Nat → Int32) (os : Int32) (wd : Nat → Int32) (ws : Int32) (tw : Nat → Int32) (tg : Int32) (o1 : Nat → Int32) (s1 atp rf rp : Int32) (pS pF pT pL it : Nat → Int32) (wh : Int32) (wk me : Nat → Int32) (sh : Int32) (ot : Nat → Int32) (n ns : Nat) (t : Nat → Tr) (hm : mo_tb n ns lf rt nx hg nu hd nm le t) (fs : List Fr) (hR : mr_R n t pS pF pT pL it (nI fs.length) (nI (fs_it fs).length) wh 0 fs none) (hs : ∀ x ∈ fs, x.2.1 ≤ 1) (j : Nat) (hj : j < n) (hb : n + fs_pot fs ≤ 16000) (hi : (fs_it fs).length < 1100) (h01 : 2 ≤ n ∧ t 0 = tr_nil ∧ t 1 = tr_quote) : Con l y_Mo_deliver M_Mo_deliver 3 69 [.ref 0, .int (nI j)] (moH lf rt nx sz hg nu hd (nI n) nm le (nI ns) pl wa tx ts ou os wd ws tw tg o1 s1 atp rf rp pS pF pT pL (nI fs.length) it (nI (fs_it fs).length) wh 0 wk me sh ot) 25 0 0 0 (fun r h' => ∃ (n2 : Nat) (lf2 rt2 nx2 sz2 hg2 hd2 pS2 pF2 pT2 pL2 it2 : Nat → Int32) (wh2 dn2 : Int32) (t2 : Nat → Tr), mo_tb n2 ns lf2 rt2 nx2 hg2 nu hd2 nm le t2 ∧ n ≤ n2 ∧ (∀ i, i < n → t2 i = t i) ∧ mr_R n2 t2 pS2 pF2 pT2 pL2 it2 (nI (ps_del fs (t j)).1.length) (nI (fs_it (ps_del fs (t j)).1).length) wh2 dn2 (ps_del fs (t j)).1 (ps_del fs (t j)).2 ∧ n2 + (fs_it (ps_del fs (t j)).1).length + fs_pot (ps_del fs (t j)).1 ≤ n + (fs_it fs).length + fs_pot fs + 1 ∧ r = none ∧ h' = moH lf2 rt2 nx2 sz2 hg2 nu hd2 (nI n2) nm le (nI ns) pl wa tx ts ou os wd ws tw tg o1 s1 atp rf rp pS2 pF2 pT2 pL2 (nI (ps_del fs (t j)).1.length) it2 (nI (fs_it (ps_del fs (t j)).1).length) wh2 dn2 wk me sh ot) := by
  refine Con.ent ok_Mo_deliver (by decide +kernel) rfl ?_
  intro pA eA sA mA argsA belowA methA cA GA μA
  refine aw_go 2 2 [some (.ref 0), some (.int (nI j)), some (.int (nI j))] [] (moH lf rt nx sz hg nu hd (nI n) nm le (nI ns) pl wa tx ts ou os wd ws tw tg o1 s1 atp rf rp pS pF pT pL (nI fs.length) it (nI (fs_it fs).length) wh 0 wk me sh ot) rfl ?_
  refine aw_loop (σ := Nat × Int32 × am_H) (fun y => ∃ (n' : Nat) (lf' rt' nx' sz' hg' hd' : Nat → Int32) (t' : Nat → Tr) (fs' : List Fr) (j' : Nat), mo_tb n' ns lf' rt' nx' hg' nu hd' nm le t' ∧ n ≤ n' ∧ (∀ i, i < n → t' i = t i) ∧ (∀ x ∈ fs', x ∈ fs) ∧ mr_fs n' t' pS pF pT pL fs' ∧ fs_it fs' = fs_it fs ∧ n' + fs_pot fs' ≤ n + fs_pot fs ∧ fs'.length ≤ 40 ∧ j' < n' ∧ ps_del fs' (t' j') = ps_del fs (t j) ∧ y.1 = fs'.length ∧ y.2.1 = nI j' ∧ y.2.2 = moH lf' rt' nx' sz' hg' nu hd' (nI n') nm le (nI ns) pl wa tx ts ou os wd ws tw tg o1 s1 atp rf rp pS pF pT pL (nI fs'.length) it (nI (fs_it fs).length) wh 0 wk me sh ot) (fun y => y.1) (fun y => [some (.ref 0), some (.int (nI j)), some (.int y.2.1)]) (fun _ => []) (fun y => y.2.2) ?_ (fs.length, nI j, moH lf rt nx sz hg nu hd (nI n) nm le (nI ns) pl wa tx ts ou os wd ws tw tg o1 s1 atp rf rp pS pF pT pL (nI fs.length) it (nI (fs_it fs).length) wh 0 wk me sh ot) ⟨n, lf, rt, nx, sz, hg, hd, t, fs, j, hm, Nat.le_refl _, fun _ _ => rfl, fun _ z => z, hR.2.2.2.1, rfl, Nat.le_refl _, hR.2.1, hj, rfl, rfl, rfl, rfl⟩
  rintro ⟨m, v, hh⟩ ⟨n', lf', rt', nx', sz', hg', hd', t', fs', j', i1, i2, i3, i4, hfs, i6, i7, i8, i9, i10, i11, i12, i13⟩ ih
  dsimp only at i11 i12 i13 ih ⊢
  subst i11
  subst i12
  subst i13
  refine aw_go 2 6 [some (.ref 0), some (.int (nI j)), some (.int (nI j'))] [.int (nI fs'.length)] (moH lf' rt' nx' sz' hg' nu hd' (nI n') nm le (nI ns) pl wa tx ts ou os wd ws tw tg o1 s1 atp rf rp pS pF pT pL (nI fs'.length) it (nI (fs_it fs).length) wh 0 wk me sh ot) rfl ?_
  rcases fs' with _ | ⟨x, r⟩
  · skip
    refine aw_go 0 6 [some (.ref 0), some (.int (nI j)), some (.int (nI j'))] [.int 0] (moH lf' rt' nx' sz' hg' nu hd' (nI n') nm le (nI ns) pl wa tx ts ou os wd ws tw tg o1 s1 atp rf rp pS pF pT pL 0 it (nI (fs_it fs).length) wh 0 wk me sh ot) rfl ?_
    refine aw_if_le rfl (fun h6 => ?_) (fun h6 => absurd h6 (by decide))
    refine aw_go 2 48 [some (.ref 0), some (.int (nI j)), some (.int (nI j'))] [.int 0] (moH lf' rt' nx' sz' hg' nu hd' (nI n') nm le (nI ns) pl wa tx ts ou os wd ws tw tg o1 s1 atp rf rp pS pF pT pL 0 it (nI (fs_it fs).length) wh 0 wk me sh ot) rfl ?_
    refine aw_if_ne rfl (fun h48 => absurd h48 (by decide)) (fun h48 => ?_)
    refine aw_go 7 126 [some (.ref 0), some (.int (nI j)), some (.int (nI j'))] [] (moH lf' rt' nx' sz' hg' nu hd' (nI n') nm le (nI ns) pl wa tx ts ou os wd ws tw tg o1 s1 atp rf rp pS pF pT pL 0 it (nI (fs_it fs).length) (nI j') 1 wk me sh ot) rfl ?_
    exact aw_vret rfl rfl ⟨n', lf', rt', nx', sz', hg', hd', pS, pF, pT, pL, it, nI j', 1, t', i1, i2, i3, by rw [← i10]; exact mr_R.top (t := t') (n := n') (fun m hm => absurd hm (Nat.not_lt_zero m)) i9, (by have z1 := ps_del_it [] (t' j') (fun x hx => hR.2.2.1 x (i4 x hx)); rw [i10, i6] at z1; omega), rfl, by rw [← i10, ← i6]; rfl⟩ rfl (Nat.le_refl _) (Nat.le_refl _) -- [] (moH lf' rt' nx' sz' hg' nu hd' (nI n') nm le (nI ns) pl wa tx ts ou os wd ws tw tg o1 s1 atp rf rp pS pF pT pL 0 it (nI (fs_it fs).length) (nI j') 1 wk me sh ot)
  · have hlen : r.length + 1 ≤ 40 := i8
    have hok := hR.2.2.1 x (i4 x List.mem_cons_self)
    have hst := hs x (i4 x List.mem_cons_self)
    refine aw_go 0 6 [some (.ref 0), some (.int (nI j)), some (.int (nI j'))] [.int (nI (r.length + 1))] (moH lf' rt' nx' sz' hg' nu hd' (nI n') nm le (nI ns) pl wa tx ts ou os wd ws tw tg o1 s1 atp rf rp pS pF pT pL (nI (r.length + 1)) it (nI (fs_it fs).length) wh 0 wk me sh ot) rfl ?_
    refine aw_if_le rfl (fun h6 => absurd (le_n (k := 0) (by omega) (by omega) h6) (by omega)) (fun h6 => ?_)
    refine aw_go 6 19 [some (.ref 0), some (.int (nI j)), some (.int (nI j'))] [.int ((nI (r.length + 1)) - 1), .ref 17] (moH lf' rt' nx' sz' hg' nu hd' (nI n') nm le (nI ns) pl wa tx ts ou os wd ws tw tg o1 s1 atp rf rp pS pF pT pL (nI (r.length + 1)) it (nI (fs_it fs).length) wh 0 wk me sh ot) rfl ?_
    rw [nI_pred]
    refine aw_ialdN rfl rfl ⟨by omega, by omega⟩ ?_
    cases hx : x.1
    · rw [show pS r.length = 0 from (by rw [hfs.1, hx]; rfl)]
      refine aw_go 1 21 [some (.ref 0), some (.int (nI j)), some (.int (nI j'))] [.int 1, .int 0] (moH lf' rt' nx' sz' hg' nu hd' (nI n') nm le (nI ns) pl wa tx ts ou os wd ws tw tg o1 s1 atp rf rp pS pF pT pL (nI (r.length + 1)) it (nI (fs_it fs).length) wh 0 wk me sh ot) rfl ?_
      refine aw_cmp_ne rfl (fun h21 => ?_) (fun h21 => absurd h21 (by decide))
      refine aw_go 2 48 [some (.ref 0), some (.int (nI j)), some (.int (nI j'))] [.int (nI (r.length + 1))] (moH lf' rt' nx' sz' hg' nu hd' (nI n') nm le (nI ns) pl wa tx ts ou os wd ws tw tg o1 s1 atp rf rp pS pF pT pL (nI (r.length + 1)) it (nI (fs_it fs).length) wh 0 wk me sh ot) rfl ?_
      refine aw_if_ne rfl (fun h48 => ?_) (fun h48 => absurd (nI_inj (b := 0) (by omega) (by omega) h48) (by omega))
      refine aw_go 6 74 [some (.ref 0), some (.int (nI j)), some (.int (nI j'))] [.int ((nI (r.length + 1)) - 1), .ref 19] (moH lf' rt' nx' sz' hg' nu hd' (nI n') nm le (nI ns) pl wa tx ts ou os wd ws tw tg o1 s1 atp rf rp pS pF pT pL (nI (r.length + 1)) it (nI (fs_it fs).length) wh 0 wk me sh ot) rfl ?_
      rw [nI_pred]
      refine aw_ialdN rfl rfl ⟨by omega, by omega⟩ ?_
      rw [hfs.2.2.1]
      refine aw_go 1 76 [some (.ref 0), some (.int (nI j)), some (.int (nI j'))] [.int 1, .int (nI x.2.1)] (moH lf' rt' nx' sz' hg' nu hd' (nI n') nm le (nI ns) pl wa tx ts ou os wd ws tw tg o1 s1 atp rf rp pS pF pT pL (nI (r.length + 1)) it (nI (fs_it fs).length) wh 0 wk me sh ot) rfl ?_
      refine aw_cmp_ne rfl (fun h76 => ?_) (fun h76 => ?_)
      · have hz0 : x.2.1 = 0 := (by have : x.2.1 ≠ 1 := (fun z => h76 (by rw [z]; rfl)); omega)
        refine aw_go 5 115 [some (.ref 0), some (.int (nI j)), some (.int (nI j'))] [.int (nI j'), .int (nI (fs_it fs).length), .ref 21] (moH lf' rt' nx' sz' hg' nu hd' (nI n') nm le (nI ns) pl wa tx ts ou os wd ws tw tg o1 s1 atp rf rp pS pF pT pL (nI (r.length + 1)) it (nI (fs_it fs).length) wh 0 wk me sh ot) rfl ?_
        refine aw_iastN rfl rfl ⟨by omega, by omega⟩ ?_
        refine aw_go 6 126 [some (.ref 0), some (.int (nI j)), some (.int (nI j'))] [] (moH lf' rt' nx' sz' hg' nu hd' (nI n') nm le (nI ns) pl wa tx ts ou os wd ws tw tg o1 s1 atp rf rp pS pF pT pL (nI (r.length + 1)) (upd it ((fs_it fs).length) (nI j')) ((nI (fs_it fs).length) + 1) wh 0 wk me sh ot) rfl ?_
        exact aw_vret rfl rfl ⟨n', lf', rt', nx', sz', hg', hd', pS, pF, pT, pL, upd it (fs_it fs).length (nI j'), wh, 0, t', i1, i2, i3, (by have z := mr_R.lst0 (wh := wh) i8 (fun y hy => hR.2.2.1 y (i4 y hy)) hfs (by rw [i6]; exact hR.2.2.2.2.2.1.keep (fun _ _ => rfl) i2 i3) (fun y hy => hs y (i4 y (List.mem_cons_of_mem _ hy))) hx hz0 i9; simp only [i10, i6] at z; have e1 := z.1; have e2 := z.2.2.2.2.1; rw [← e1, ← e2]; exact z), (by have z1 := ps_del_it (x :: r) (t' j') (fun x hx => hR.2.2.1 x (i4 x hx)); rw [i10, i6] at z1; omega), rfl, (by have z := mr_R.lst0 (wh := wh) i8 (fun y hy => hR.2.2.1 y (i4 y hy)) hfs (by rw [i6]; exact hR.2.2.2.2.2.1.keep (fun _ _ => rfl) i2 i3) (fun y hy => hs y (i4 y (List.mem_cons_of_mem _ hy))) hx hz0 i9; simp only [i10, i6] at z; rw [← z.1, ← z.2.2.2.2.1]; simp only [nI_succ])⟩ rfl (Nat.le_refl _) (Nat.le_refl _) -- [] (moH lf' rt' nx' sz' hg' nu hd' (nI n') nm le (nI ns) pl wa tx ts ou os wd ws tw tg o1 s1 atp rf rp pS pF pT pL (nI (r.length + 1)) (upd it ((fs_it fs).length) (nI j')) ((nI (fs_it fs).length) + 1) wh 0 wk me sh ot)
      · have hz1 : x.2.1 = 1 := nI_inj (b := 1) (by omega) (by omega) h76
        refine aw_go 6 89 [some (.ref 0), some (.int (nI j)), some (.int (nI j'))] [.int ((nI (r.length + 1)) - 1), .ref 20] (moH lf' rt' nx' sz' hg' nu hd' (nI n') nm le (nI ns) pl wa tx ts ou os wd ws tw tg o1 s1 atp rf rp pS pF pT pL (nI (r.length + 1)) it (nI (fs_it fs).length) wh 0 wk me sh ot) rfl ?_
        rw [nI_pred]
        refine aw_go 1 90 [some (.ref 0), some (.int (nI j)), some (.int (nI j'))] [.int (nI j'), .int (nI r.length), .ref 20] (moH lf' rt' nx' sz' hg' nu hd' (nI n') nm le (nI ns) pl wa tx ts ou os wd ws tw tg o1 s1 atp rf rp pS pF pT pL (nI (r.length + 1)) it (nI (fs_it fs).length) wh 0 wk me sh ot) rfl ?_
        refine aw_iastN rfl rfl ⟨by omega, by omega⟩ ?_
        refine aw_go 6 101 [some (.ref 0), some (.int (nI j)), some (.int (nI j'))] [.int ((nI (r.length + 1)) - 1), .ref 19] (moH lf' rt' nx' sz' hg' nu hd' (nI n') nm le (nI ns) pl wa tx ts ou os wd ws tw tg o1 s1 atp rf rp pS pF pT (upd pL r.length (nI j')) (nI (r.length + 1)) it (nI (fs_it fs).length) wh 0 wk me sh ot) rfl ?_
        rw [nI_pred]
        refine aw_go 1 102 [some (.ref 0), some (.int (nI j)), some (.int (nI j'))] [.int 2, .int (nI r.length), .ref 19] (moH lf' rt' nx' sz' hg' nu hd' (nI n') nm le (nI ns) pl wa tx ts ou os wd ws tw tg o1 s1 atp rf rp pS pF pT (upd pL r.length (nI j')) (nI (r.length + 1)) it (nI (fs_it fs).length) wh 0 wk me sh ot) rfl ?_
        refine aw_iastN rfl rfl ⟨by omega, by omega⟩ ?_
        refine aw_go 1 126 [some (.ref 0), some (.int (nI j)), some (.int (nI j'))] [] (moH lf' rt' nx' sz' hg' nu hd' (nI n') nm le (nI ns) pl wa tx ts ou os wd ws tw tg o1 s1 atp rf rp pS pF (upd pT r.length 2) (upd pL r.length (nI j')) (nI (r.length + 1)) it (nI (fs_it fs).length) wh 0 wk me sh ot) rfl ?_
        exact aw_vret rfl rfl ⟨n', lf', rt', nx', sz', hg', hd', pS, pF, upd pT r.length 2, upd pL r.length (nI j'), it, wh, 0, t', i1, i2, i3, (by have z := mr_R.lst1 (wh := wh) i8 (fun y hy => hR.2.2.1 y (i4 y hy)) hfs rfl (by rw [i6]; exact hR.2.2.2.2.2.1.keep (fun _ _ => rfl) i2 i3) (fun y hy => hs y (i4 y (List.mem_cons_of_mem _ hy))) hx hz1 i9; simp only [i10, i6] at z; have e1 := z.1; have e2 := z.2.2.2.2.1; rw [← e1, ← e2]; exact z), (by have z1 := ps_del_it (x :: r) (t' j') (fun x hx => hR.2.2.1 x (i4 x hx)); rw [i10, i6] at z1; omega), rfl, (by have z := mr_R.lst1 (wh := wh) i8 (fun y hy => hR.2.2.1 y (i4 y hy)) hfs rfl (by rw [i6]; exact hR.2.2.2.2.2.1.keep (fun _ _ => rfl) i2 i3) (fun y hy => hs y (i4 y (List.mem_cons_of_mem _ hy))) hx hz1 i9; simp only [i10, i6] at z; rw [← z.1, ← z.2.2.2.2.1])⟩ rfl (Nat.le_refl _) (Nat.le_refl _) -- [] (moH lf' rt' nx' sz' hg' nu hd' (nI n') nm le (nI ns) pl wa tx ts ou os wd ws tw tg o1 s1 atp rf rp pS pF (upd pT r.length 2) (upd pL r.length (nI j')) (nI (r.length + 1)) it (nI (fs_it fs).length) wh 0 wk me sh ot)
    · rw [show pS r.length = 1 from (by rw [hfs.1, hx]; rfl)]
      refine aw_go 1 21 [some (.ref 0), some (.int (nI j)), some (.int (nI j'))] [.int 1, .int 1] (moH lf' rt' nx' sz' hg' nu hd' (nI n') nm le (nI ns) pl wa tx ts ou os wd ws tw tg o1 s1 atp rf rp pS pF pT pL (nI (r.length + 1)) it (nI (fs_it fs).length) wh 0 wk me sh ot) rfl ?_
      refine aw_cmp_ne rfl (fun h21 => absurd h21 (by decide)) (fun h21 => ?_)
      refine aw_go 3 27 [some (.ref 0), some (.int (nI j)), some (.int (nI j'))] [.int (nI j'), .int 1, .ref 0] (moH lf' rt' nx' sz' hg' nu hd' (nI n') nm le (nI ns) pl wa tx ts ou os wd ws tw tg o1 s1 atp rf rp pS pF pT pL (nI (r.length + 1)) it (nI (fs_it fs).length) wh 0 wk me sh ot) rfl ?_
      refine aw_cV [0, 1, 2, 3, 4, 5, 6, 7, 8, 9, 10, 11, 12, 13, 14, 15, 16, 17, 18, 19, 20, 21, 22, 23, 24] (c_Mo_list2 l lf' rt' nx' sz' hg' nu hd' nm le pl wa tx ts ou os wd ws tw tg o1 s1 atp rf rp pS pF pT pL (nI (r.length + 1)) it (nI (fs_it fs).length) wh 0 wk me sh ot n' ns t' i1 1 j' (by omega) i9 (by simp only [fs_pot, hx, if_true] at i7; omega) (by rw [i3 0 (by omega)]; exact h01.2.1)) rfl cw_Mo_152 rfl rfl rfl rfl rfl rfl (Nat.le_refl _) (Nat.le_refl _) (fun r h' hp => ?_)
      obtain ⟨j3, n3, lf3, rt3, nx3, sz3, hg3, hd3, t3, g1, g2, g3, g4, g5, g6, rfl, rfl⟩ := hp
      refine aw_go 7 41 [some (.ref 0), some (.int (nI j)), some (.int (nI j3))] [] (moH lf3 rt3 nx3 sz3 hg3 nu hd3 (nI n3) nm le (nI ns) pl wa tx ts ou os wd ws tw tg o1 s1 atp rf rp pS pF pT pL ((nI (r.length + 1)) - 1) it (nI (fs_it fs).length) wh 0 wk me sh ot) rfl ?_
      rw [nI_pred]
      refine aw_go 1 2 [some (.ref 0), some (.int (nI j)), some (.int (nI j3))] [] (moH lf3 rt3 nx3 sz3 hg3 nu hd3 (nI n3) nm le (nI ns) pl wa tx ts ou os wd ws tw tg o1 s1 atp rf rp pS pF pT pL (nI r.length) it (nI (fs_it fs).length) wh 0 wk me sh ot) rfl ?_
      -- LOOP 2: [some (.ref 0), some (.int (nI j)), some (.int (nI j3))] [] (moH lf3 rt3 nx3 sz3 hg3 nu hd3 (nI n3) nm le (nI ns) pl wa tx ts ou os wd ws tw tg o1 s1 atp rf rp pS pF pT pL (nI r.length) it (nI (fs_it fs).length) wh 0 wk me sh ot)
      exact aw_eq rfl rfl rfl (ih (r.length, nI j3, _) ⟨n3, lf3, rt3, nx3, sz3, hg3, hd3, t3, r, j3, g1, by omega, fun i hi => by rw [g6 i (by omega)]; exact i3 i hi, fun y hy => i4 y (List.mem_cons_of_mem _ hy), hfs.2.2.2.2.keep g4 g6 r (fun i _ => ⟨rfl, rfl, rfl, rfl⟩), by rw [← i6, fs_it_q hok hx], by simp only [fs_pot, hx, if_true] at i7; omega, by omega, g2, by rw [g3, i3 1 (by omega), h01.2.2, ← ps_del_q hx]; exact i10, rfl, rfl, rfl⟩ (by show r.length < r.length + 1; omega))
set_option maxHeartbeats 2000000 in
set_option maxRecDepth 100000 in
theorem c_Mo_close_0 (l : Launch) (lf rt nx sz hg : Nat → Int32) (nu : Nat → Int64) (hd nm le pl wa tx : Nat → Int32) (ts : Int32) (ou : Nat → Int32) (os : Int32) (wd : Nat → Int32) (ws : Int32) (tw : Nat → Int32) (tg : Int32) (o1 : Nat → Int32) (s1 atp rf rp : Int32) (pS pF pT pL it : Nat → Int32) (wh : Int32) (wk me : Nat → Int32) (sh : Int32) (ot : Nat → Int32) (n ns : Nat) (t : Nat → Tr) (hm : mo_tb n ns lf rt nx hg nu hd nm le t) (x : Fr) (rr : List Fr) (hR : mr_R n t pS pF pT pL it (nI (rr.length + 1)) (nI ((fs_it rr).length + x.2.2.1.length)) wh 0 (x :: rr) none) (hx : x.1 = false) (hz : x.2.1 = 0) (hb : n + (fs_it (x :: rr)).length + fs_pot (x :: rr) ≤ 16000) (hi : (fs_it (x :: rr)).length < 1100) (h01 : 2 ≤ n ∧ t 0 = tr_nil ∧ t 1 = tr_quote) : Con l y_Mo_close M_Mo_close 4 91 [.ref 0] (moH lf rt nx sz hg nu hd (nI n) nm le (nI ns) pl wa tx ts ou os wd ws tw tg o1 s1 atp rf rp pS pF pT pL (nI (rr.length + 1)) it (nI ((fs_it rr).length + x.2.2.1.length)) wh 0 wk me sh ot) 25 0 0 0 (fun r h' => ∃ (n2 : Nat) (lf2 rt2 nx2 sz2 hg2 hd2 pS2 pF2 pT2 pL2 it2 : Nat → Int32) (wh2 dn2 : Int32) (t2 : Nat → Tr), mo_tb n2 ns lf2 rt2 nx2 hg2 nu hd2 nm le t2 ∧ n ≤ n2 ∧ (∀ i, i < n → t2 i = t i) ∧ mr_R n2 t2 pS2 pF2 pT2 pL2 it2 (nI (ps_del rr (fr_tr x)).1.length) (nI (fs_it (ps_del rr (fr_tr x)).1).length) wh2 dn2 (ps_del rr (fr_tr x)).1 (ps_del rr (fr_tr x)).2 ∧ n2 + (fs_it (ps_del rr (fr_tr x)).1).length + fs_pot (ps_del rr (fr_tr x)).1 ≤ n + (fs_it (x :: rr)).length + fs_pot (x :: rr) + 0 ∧ r = none ∧ h' = moH lf2 rt2 nx2 sz2 hg2 nu hd2 (nI n2) nm le (nI ns) pl wa tx ts ou os wd ws tw tg o1 s1 atp rf rp pS2 pF2 pT2 pL2 (nI (ps_del rr (fr_tr x)).1.length) it2 (nI (fs_it (ps_del rr (fr_tr x)).1).length) wh2 dn2 wk me sh ot) := by
  have hlen : rr.length + 1 ≤ 40 := hR.2.1
  have hfs := hR.2.2.2.1
  have hob : ob_R it t n 0 (fs_it rr ++ x.2.2.1) := hR.2.2.2.2.2.1
  have hbb : (fs_it rr).length + x.2.2.1.length < 1100 := by simp only [fs_it, List.length_append] at hi; exact hi
  refine Con.ent ok_Mo_close (by decide +kernel) rfl ?_
  intro pA eA sA mA argsA belowA methA cA GA μA
  refine aw_go 4 6 [some (.ref 0), none, none] [.int ((nI (rr.length + 1)) - 1)] (moH lf rt nx sz hg nu hd (nI n) nm le (nI ns) pl wa tx ts ou os wd ws tw tg o1 s1 atp rf rp pS pF pT pL (nI (rr.length + 1)) it (nI ((fs_it rr).length + x.2.2.1.length)) wh 0 wk me sh ot) rfl ?_
  rw [nI_pred]
  refine aw_go 4 12 [some (.ref 0), some (.int (nI rr.length)), none] [.int (nI rr.length), .ref 19] (moH lf rt nx sz hg nu hd (nI n) nm le (nI ns) pl wa tx ts ou os wd ws tw tg o1 s1 atp rf rp pS pF pT pL (nI (rr.length + 1)) it (nI ((fs_it rr).length + x.2.2.1.length)) wh 0 wk me sh ot) rfl ?_
  refine aw_ialdN rfl rfl ⟨by omega, by omega⟩ ?_
  rw [show pT rr.length = 0 from (by rw [hfs.2.2.1, hz]; rfl)]
  refine aw_go 1 14 [some (.ref 0), some (.int (nI rr.length)), none] [.int 2, .int 0] (moH lf rt nx sz hg nu hd (nI n) nm le (nI ns) pl wa tx ts ou os wd ws tw tg o1 s1 atp rf rp pS pF pT pL (nI (rr.length + 1)) it (nI ((fs_it rr).length + x.2.2.1.length)) wh 0 wk me sh ot) rfl ?_
  refine aw_cmp_ne rfl (fun h14 => ?_) (fun h14 => absurd h14 (by decide))
  refine aw_go 2 28 [some (.ref 0), some (.int (nI rr.length)), some (.int 0)] [] (moH lf rt nx sz hg nu hd (nI n) nm le (nI ns) pl wa tx ts ou os wd ws tw tg o1 s1 atp rf rp pS pF pT pL (nI (rr.length + 1)) it (nI ((fs_it rr).length + x.2.2.1.length)) wh 0 wk me sh ot) rfl ?_
  refine aw_loop (σ := Nat × Int32 × am_H) (fun y => ∃ (n' : Nat) (lf' rt' nx' sz' hg' hd' : Nat → Int32) (t' : Nat → Tr) (m j' : Nat), mo_tb n' ns lf' rt' nx' hg' nu hd' nm le t' ∧ n ≤ n' ∧ (∀ i, i < n → t' i = t i) ∧ m ≤ x.2.2.1.length ∧ n' + m ≤ n + x.2.2.1.length ∧ j' < n' ∧ t' j' = (x.2.2.1.drop m).foldr .op tr_nil ∧ y.1 = m ∧ y.2.1 = nI j' ∧ y.2.2 = moH lf' rt' nx' sz' hg' nu hd' (nI n') nm le (nI ns) pl wa tx ts ou os wd ws tw tg o1 s1 atp rf rp pS pF pT pL (nI (rr.length + 1)) it (nI ((fs_it rr).length + m)) wh 0 wk me sh ot) (fun y => y.1) (fun y => [some (.ref 0), some (.int (nI rr.length)), some (.int y.2.1)]) (fun _ => []) (fun y => y.2.2) ?_ (x.2.2.1.length, nI 0, moH lf rt nx sz hg nu hd (nI n) nm le (nI ns) pl wa tx ts ou os wd ws tw tg o1 s1 atp rf rp pS pF pT pL (nI (rr.length + 1)) it (nI ((fs_it rr).length + x.2.2.1.length)) wh 0 wk me sh ot) ⟨n, lf, rt, nx, sz, hg, hd, t, x.2.2.1.length, 0, hm, Nat.le_refl _, fun _ _ => rfl, Nat.le_refl _, Nat.le_refl _, by omega, by rw [List.drop_length]; exact h01.2.1, rfl, rfl, rfl⟩
  rintro ⟨m, v, hh⟩ ⟨n', lf', rt', nx', sz', hg', hd', t', m0, j', i1, i2, i3, i4, i5, i6, i7, i8, i9, i10⟩ ih
  dsimp only at i8 i9 i10 ih ⊢
  subst i8
  subst i9
  subst i10
  refine aw_go 5 37 [some (.ref 0), some (.int (nI rr.length)), some (.int (nI j'))] [.int (nI rr.length), .ref 18, .int (nI ((fs_it rr).length + m))] (moH lf' rt' nx' sz' hg' nu hd' (nI n') nm le (nI ns) pl wa tx ts ou os wd ws tw tg o1 s1 atp rf rp pS pF pT pL (nI (rr.length + 1)) it (nI ((fs_it rr).length + m)) wh 0 wk me sh ot) rfl ?_
  refine aw_ialdN rfl rfl ⟨by omega, by omega⟩ ?_
  rw [hfs.2.1]
  refine aw_cmp_le rfl (fun h38 => ?_) (fun h38 => ?_)
  · obtain rfl : m = 0 := (by have z := le_n (by omega) (by omega) h38; omega)
    refine aw_go 6 79 [some (.ref 0), some (.int (nI rr.length)), some (.int (nI j'))] [] (moH lf' rt' nx' sz' hg' nu hd' (nI n') nm le (nI ns) pl wa tx ts ou os wd ws tw tg o1 s1 atp rf rp pS pF pT pL ((nI (rr.length + 1)) - 1) it (nI ((fs_it rr).length + 0)) wh 0 wk me sh ot) rfl ?_
    rw [nI_pred]
    have hR2 : mr_R n' t' pS pF pT pL it (nI rr.length) (nI (fs_it rr).length) wh 0 rr none := ⟨rfl, by omega, fun y hy => hR.2.2.1 y (List.mem_cons_of_mem _ hy), hfs.2.2.2.2.keep i2 i3 rr (fun i _ => ⟨rfl, rfl, rfl, rfl⟩), rfl, hob.mid.1.keep (fun _ _ => rfl) i2 i3, rfl, (fun T hT => nomatch hT), fun y hy => hR.2.2.2.2.2.2.2.2 y (List.mem_of_mem_tail hy)⟩
    have hfr : fr_tr x = t' j' := (by rw [i7]; unfold fr_tr; rw [if_neg (by omega)]; rfl)
    refine aw_go 2 81 [some (.ref 0), some (.int (nI rr.length)), some (.int (nI j'))] [.int (nI j'), .ref 0] (moH lf' rt' nx' sz' hg' nu hd' (nI n') nm le (nI ns) pl wa tx ts ou os wd ws tw tg o1 s1 atp rf rp pS pF pT pL (nI rr.length) it (nI (fs_it rr).length) wh 0 wk me sh ot) rfl ?_
    refine aw_cV [0, 1, 2, 3, 4, 5, 6, 7, 8, 9, 10, 11, 12, 13, 14, 15, 16, 17, 18, 19, 20, 21, 22, 23, 24] (c_Mo_deliver l lf' rt' nx' sz' hg' nu hd' nm le pl wa tx ts ou os wd ws tw tg o1 s1 atp rf rp pS pF pT pL it wh wk me sh ot n' ns t' i1 rr hR2 (fun y hy => hR.2.2.2.2.2.2.2.2 y hy) j' i6 (by have hp : fs_pot (x :: rr) = fs_pot rr + 1 := (by simp [fs_pot, hx]); rw [hp, fs_it, List.length_append] at hb; omega) (by simp only [fs_it, List.length_append] at hi; omega) ⟨by omega, by rw [i3 0 (by omega)]; exact h01.2.1, by rw [i3 1 (by omega)]; exact h01.2.2⟩) rfl cw_Mo_158 rfl rfl rfl rfl rfl rfl (Nat.le_refl _) (Nat.le_refl _) (fun r h' hp => ?_)
    obtain ⟨n4, lf4, rt4, nx4, sz4, hg4, hd4, pS4, pF4, pT4, pL4, it4, wh4, dn4, t4, q14, q24, q34, q44, q54, rfl, rfl⟩ := hp
    refine aw_go 0 84 [some (.ref 0), some (.int (nI rr.length)), some (.int (nI j'))] [] (moH lf4 rt4 nx4 sz4 hg4 nu hd4 (nI n4) nm le (nI ns) pl wa tx ts ou os wd ws tw tg o1 s1 atp rf rp pS4 pF4 pT4 pL4 (nI (ps_del rr (t' j')).1.length) it4 (nI (fs_it (ps_del rr (t' j')).1).length) wh4 dn4 wk me sh ot) rfl ?_
    exact aw_vret rfl rfl (by rw [hfr]; exact ⟨n4, lf4, rt4, nx4, sz4, hg4, hd4, pS4, pF4, pT4, pL4, it4, wh4, dn4, t4, q14, by omega, fun i hi => by rw [q34 i (by omega)]; exact i3 i hi, q44, (by have hp : fs_pot (x :: rr) = fs_pot rr + 1 := (by simp [fs_pot, hx]); rw [hp, show (fs_it (x :: rr)).length = (fs_it rr).length + x.2.2.1.length from (by simp only [fs_it, List.length_append])]; omega), rfl, rfl⟩) rfl (Nat.le_refl _) (Nat.le_refl _) -- [] (moH lf4 rt4 nx4 sz4 hg4 nu hd4 (nI n4) nm le (nI ns) pl wa tx ts ou os wd ws tw tg o1 s1 atp rf rp pS4 pF4 pT4 pL4 (nI (ps_del rr (t' j')).1.length) it4 (nI (fs_it (ps_del rr (t' j')).1).length) wh4 dn4 wk me sh ot)
  · obtain ⟨m1, rfl⟩ : ∃ m1, m = m1 + 1 := ⟨m - 1, by have z := nle_n (by omega) (by omega) h38; omega⟩
    obtain ⟨i0, hi0, hi0e, hi0t⟩ := hob.mid.2 m1 (by omega)
    refine aw_go 6 51 [some (.ref 0), some (.int (nI rr.length)), some (.int (nI j'))] [] (moH lf' rt' nx' sz' hg' nu hd' (nI n') nm le (nI ns) pl wa tx ts ou os wd ws tw tg o1 s1 atp rf rp pS pF pT pL (nI (rr.length + 1)) it ((nI ((fs_it rr).length + m1 + 1)) - 1) wh 0 wk me sh ot) rfl ?_
    rw [show nI ((fs_it rr).length + m1 + 1) - 1 = nI ((fs_it rr).length + m1) from nI_pred _]
    refine aw_go 5 60 [some (.ref 0), some (.int (nI rr.length)), some (.int (nI j'))] [.int (nI ((fs_it rr).length + m1)), .ref 21, .ref 0] (moH lf' rt' nx' sz' hg' nu hd' (nI n') nm le (nI ns) pl wa tx ts ou os wd ws tw tg o1 s1 atp rf rp pS pF pT pL (nI (rr.length + 1)) it (nI ((fs_it rr).length + m1)) wh 0 wk me sh ot) rfl ?_
    refine aw_ialdN rfl rfl ⟨by omega, by omega⟩ ?_
    rw [hi0e]
    refine aw_go 1 62 [some (.ref 0), some (.int (nI rr.length)), some (.int (nI j'))] [.int (nI j'), .int (nI i0), .ref 0] (moH lf' rt' nx' sz' hg' nu hd' (nI n') nm le (nI ns) pl wa tx ts ou os wd ws tw tg o1 s1 atp rf rp pS pF pT pL (nI (rr.length + 1)) it (nI ((fs_it rr).length + m1)) wh 0 wk me sh ot) rfl ?_
    refine aw_cV [0, 1, 2, 3, 4, 5, 6, 7, 8, 9, 10, 11, 12, 13, 14, 15, 16, 17, 18, 19, 20, 21, 22, 23, 24] (c_Mo_pair l lf' rt' nx' sz' hg' nu hd' nm le pl wa tx ts ou os wd ws tw tg o1 s1 atp rf rp pS pF pT pL (nI (rr.length + 1)) it (nI ((fs_it rr).length + m1)) wh 0 wk me sh ot n' ns t' i1 i0 j' (by omega) i6 (by simp only [fs_it, List.length_append, fs_pot] at hb; omega)) rfl cw_Mo_127 rfl rfl rfl rfl rfl rfl (Nat.le_refl _) (Nat.le_refl _) (fun r h' hp => ?_)
    obtain ⟨j3, n3, lf3, rt3, nx3, sz3, hg3, hd3, t3, g13, g23, g33, g43, g53, g63, rfl, rfl⟩ := hp
    refine aw_go 2 28 [some (.ref 0), some (.int (nI rr.length)), some (.int (nI j3))] [] (moH lf3 rt3 nx3 sz3 hg3 nu hd3 (nI n3) nm le (nI ns) pl wa tx ts ou os wd ws tw tg o1 s1 atp rf rp pS pF pT pL (nI (rr.length + 1)) it (nI ((fs_it rr).length + m1)) wh 0 wk me sh ot) rfl ?_
    -- LOOP 28: [some (.ref 0), some (.int (nI rr.length)), some (.int (nI j3))] [] (moH lf3 rt3 nx3 sz3 hg3 nu hd3 (nI n3) nm le (nI ns) pl wa tx ts ou os wd ws tw tg o1 s1 atp rf rp pS pF pT pL (nI (rr.length + 1)) it (nI ((fs_it rr).length + m1)) wh 0 wk me sh ot)
    exact aw_eq rfl rfl rfl (ih (m1, nI j3, _) ⟨n3, lf3, rt3, nx3, sz3, hg3, hd3, t3, m1, j3, g13, by omega, fun i hi => by rw [g63 i (by omega)]; exact i3 i hi, by omega, by omega, g23, by rw [g33, i7, i3 i0 hi0]; exact (rd_dr hi0t).symm, rfl, rfl, rfl⟩ (by show m1 < m1 + 1; omega))
set_option maxHeartbeats 2000000 in
set_option maxRecDepth 100000 in
theorem c_Mo_close_2 (l : Launch) (lf rt nx sz hg : Nat → Int32) (nu : Nat → Int64) (hd nm le pl wa tx : Nat → Int32) (ts : Int32) (ou : Nat → Int32) (os : Int32) (wd : Nat → Int32) (ws : Int32) (tw : Nat → Int32) (tg : Int32) (o1 : Nat → Int32) (s1 atp rf rp : Int32) (pS pF pT pL it : Nat → Int32) (wh : Int32) (wk me : Nat → Int32) (sh : Int32) (ot : Nat → Int32) (n ns : Nat) (t : Nat → Tr) (hm : mo_tb n ns lf rt nx hg nu hd nm le t) (x : Fr) (rr : List Fr) (hR : mr_R n t pS pF pT pL it (nI (rr.length + 1)) (nI ((fs_it rr).length + x.2.2.1.length)) wh 0 (x :: rr) none) (hx : x.1 = false) (hz : x.2.1 = 2) (hb : n + (fs_it (x :: rr)).length + fs_pot (x :: rr) ≤ 16000) (hi : (fs_it (x :: rr)).length < 1100) (h01 : 2 ≤ n ∧ t 0 = tr_nil ∧ t 1 = tr_quote) : Con l y_Mo_close M_Mo_close 4 91 [.ref 0] (moH lf rt nx sz hg nu hd (nI n) nm le (nI ns) pl wa tx ts ou os wd ws tw tg o1 s1 atp rf rp pS pF pT pL (nI (rr.length + 1)) it (nI ((fs_it rr).length + x.2.2.1.length)) wh 0 wk me sh ot) 25 0 0 0 (fun r h' => ∃ (n2 : Nat) (lf2 rt2 nx2 sz2 hg2 hd2 pS2 pF2 pT2 pL2 it2 : Nat → Int32) (wh2 dn2 : Int32) (t2 : Nat → Tr), mo_tb n2 ns lf2 rt2 nx2 hg2 nu hd2 nm le t2 ∧ n ≤ n2 ∧ (∀ i, i < n → t2 i = t i) ∧ mr_R n2 t2 pS2 pF2 pT2 pL2 it2 (nI (ps_del rr (fr_tr x)).1.length) (nI (fs_it (ps_del rr (fr_tr x)).1).length) wh2 dn2 (ps_del rr (fr_tr x)).1 (ps_del rr (fr_tr x)).2 ∧ n2 + (fs_it (ps_del rr (fr_tr x)).1).length + fs_pot (ps_del rr (fr_tr x)).1 ≤ n + (fs_it (x :: rr)).length + fs_pot (x :: rr) + 0 ∧ r = none ∧ h' = moH lf2 rt2 nx2 sz2 hg2 nu hd2 (nI n2) nm le (nI ns) pl wa tx ts ou os wd ws tw tg o1 s1 atp rf rp pS2 pF2 pT2 pL2 (nI (ps_del rr (fr_tr x)).1.length) it2 (nI (fs_it (ps_del rr (fr_tr x)).1).length) wh2 dn2 wk me sh ot) := by
  have hlen : rr.length + 1 ≤ 40 := hR.2.1
  have hfs := hR.2.2.2.1
  have hob : ob_R it t n 0 (fs_it rr ++ x.2.2.1) := hR.2.2.2.2.2.1
  have hbb : (fs_it rr).length + x.2.2.1.length < 1100 := by simp only [fs_it, List.length_append] at hi; exact hi
  obtain ⟨jL, hjL, hpL, htL⟩ := hfs.2.2.2.1 hz
  refine Con.ent ok_Mo_close (by decide +kernel) rfl ?_
  intro pA eA sA mA argsA belowA methA cA GA μA
  refine aw_go 4 6 [some (.ref 0), none, none] [.int ((nI (rr.length + 1)) - 1)] (moH lf rt nx sz hg nu hd (nI n) nm le (nI ns) pl wa tx ts ou os wd ws tw tg o1 s1 atp rf rp pS pF pT pL (nI (rr.length + 1)) it (nI ((fs_it rr).length + x.2.2.1.length)) wh 0 wk me sh ot) rfl ?_
  rw [nI_pred]
  refine aw_go 4 12 [some (.ref 0), some (.int (nI rr.length)), none] [.int (nI rr.length), .ref 19] (moH lf rt nx sz hg nu hd (nI n) nm le (nI ns) pl wa tx ts ou os wd ws tw tg o1 s1 atp rf rp pS pF pT pL (nI (rr.length + 1)) it (nI ((fs_it rr).length + x.2.2.1.length)) wh 0 wk me sh ot) rfl ?_
  refine aw_ialdN rfl rfl ⟨by omega, by omega⟩ ?_
  rw [show pT rr.length = 2 from (by rw [hfs.2.2.1, hz]; rfl)]
  refine aw_go 1 14 [some (.ref 0), some (.int (nI rr.length)), none] [.int 2, .int 2] (moH lf rt nx sz hg nu hd (nI n) nm le (nI ns) pl wa tx ts ou os wd ws tw tg o1 s1 atp rf rp pS pF pT pL (nI (rr.length + 1)) it (nI ((fs_it rr).length + x.2.2.1.length)) wh 0 wk me sh ot) rfl ?_
  refine aw_cmp_ne rfl (fun h14 => absurd h14 (by decide)) (fun h14 => ?_)
  refine aw_go 3 22 [some (.ref 0), some (.int (nI rr.length)), none] [.int (nI rr.length), .ref 20] (moH lf rt nx sz hg nu hd (nI n) nm le (nI ns) pl wa tx ts ou os wd ws tw tg o1 s1 atp rf rp pS pF pT pL (nI (rr.length + 1)) it (nI ((fs_it rr).length + x.2.2.1.length)) wh 0 wk me sh ot) rfl ?_
  refine aw_ialdN rfl rfl ⟨by omega, by omega⟩ ?_
  rw [hpL]
  refine aw_go 2 28 [some (.ref 0), some (.int (nI rr.length)), some (.int (nI jL))] [] (moH lf rt nx sz hg nu hd (nI n) nm le (nI ns) pl wa tx ts ou os wd ws tw tg o1 s1 atp rf rp pS pF pT pL (nI (rr.length + 1)) it (nI ((fs_it rr).length + x.2.2.1.length)) wh 0 wk me sh ot) rfl ?_
  refine aw_loop (σ := Nat × Int32 × am_H) (fun y => ∃ (n' : Nat) (lf' rt' nx' sz' hg' hd' : Nat → Int32) (t' : Nat → Tr) (m j' : Nat), mo_tb n' ns lf' rt' nx' hg' nu hd' nm le t' ∧ n ≤ n' ∧ (∀ i, i < n → t' i = t i) ∧ m ≤ x.2.2.1.length ∧ n' + m ≤ n + x.2.2.1.length ∧ j' < n' ∧ t' j' = (x.2.2.1.drop m).foldr .op x.2.2.2 ∧ y.1 = m ∧ y.2.1 = nI j' ∧ y.2.2 = moH lf' rt' nx' sz' hg' nu hd' (nI n') nm le (nI ns) pl wa tx ts ou os wd ws tw tg o1 s1 atp rf rp pS pF pT pL (nI (rr.length + 1)) it (nI ((fs_it rr).length + m)) wh 0 wk me sh ot) (fun y => y.1) (fun y => [some (.ref 0), some (.int (nI rr.length)), some (.int y.2.1)]) (fun _ => []) (fun y => y.2.2) ?_ (x.2.2.1.length, nI jL, moH lf rt nx sz hg nu hd (nI n) nm le (nI ns) pl wa tx ts ou os wd ws tw tg o1 s1 atp rf rp pS pF pT pL (nI (rr.length + 1)) it (nI ((fs_it rr).length + x.2.2.1.length)) wh 0 wk me sh ot) ⟨n, lf, rt, nx, sz, hg, hd, t, x.2.2.1.length, jL, hm, Nat.le_refl _, fun _ _ => rfl, Nat.le_refl _, Nat.le_refl _, hjL, by rw [List.drop_length]; exact htL, rfl, rfl, rfl⟩
  rintro ⟨m, v, hh⟩ ⟨n', lf', rt', nx', sz', hg', hd', t', m0, j', i1, i2, i3, i4, i5, i6, i7, i8, i9, i10⟩ ih
  dsimp only at i8 i9 i10 ih ⊢
  subst i8
  subst i9
  subst i10
  refine aw_go 5 37 [some (.ref 0), some (.int (nI rr.length)), some (.int (nI j'))] [.int (nI rr.length), .ref 18, .int (nI ((fs_it rr).length + m))] (moH lf' rt' nx' sz' hg' nu hd' (nI n') nm le (nI ns) pl wa tx ts ou os wd ws tw tg o1 s1 atp rf rp pS pF pT pL (nI (rr.length + 1)) it (nI ((fs_it rr).length + m)) wh 0 wk me sh ot) rfl ?_
  refine aw_ialdN rfl rfl ⟨by omega, by omega⟩ ?_
  rw [hfs.2.1]
  refine aw_cmp_le rfl (fun h38 => ?_) (fun h38 => ?_)
  · obtain rfl : m = 0 := (by have z := le_n (by omega) (by omega) h38; omega)
    refine aw_go 6 79 [some (.ref 0), some (.int (nI rr.length)), some (.int (nI j'))] [] (moH lf' rt' nx' sz' hg' nu hd' (nI n') nm le (nI ns) pl wa tx ts ou os wd ws tw tg o1 s1 atp rf rp pS pF pT pL ((nI (rr.length + 1)) - 1) it (nI ((fs_it rr).length + 0)) wh 0 wk me sh ot) rfl ?_
    rw [nI_pred]
    have hR2 : mr_R n' t' pS pF pT pL it (nI rr.length) (nI (fs_it rr).length) wh 0 rr none := ⟨rfl, by omega, fun y hy => hR.2.2.1 y (List.mem_cons_of_mem _ hy), hfs.2.2.2.2.keep i2 i3 rr (fun i _ => ⟨rfl, rfl, rfl, rfl⟩), rfl, hob.mid.1.keep (fun _ _ => rfl) i2 i3, rfl, (fun T hT => nomatch hT), fun y hy => hR.2.2.2.2.2.2.2.2 y (List.mem_of_mem_tail hy)⟩
    have hfr : fr_tr x = t' j' := (by rw [i7]; unfold fr_tr; rw [if_pos hz]; rfl)
    refine aw_go 2 81 [some (.ref 0), some (.int (nI rr.length)), some (.int (nI j'))] [.int (nI j'), .ref 0] (moH lf' rt' nx' sz' hg' nu hd' (nI n') nm le (nI ns) pl wa tx ts ou os wd ws tw tg o1 s1 atp rf rp pS pF pT pL (nI rr.length) it (nI (fs_it rr).length) wh 0 wk me sh ot) rfl ?_
    refine aw_cV [0, 1, 2, 3, 4, 5, 6, 7, 8, 9, 10, 11, 12, 13, 14, 15, 16, 17, 18, 19, 20, 21, 22, 23, 24] (c_Mo_deliver l lf' rt' nx' sz' hg' nu hd' nm le pl wa tx ts ou os wd ws tw tg o1 s1 atp rf rp pS pF pT pL it wh wk me sh ot n' ns t' i1 rr hR2 (fun y hy => hR.2.2.2.2.2.2.2.2 y hy) j' i6 (by have hp : fs_pot (x :: rr) = fs_pot rr + 1 := (by simp [fs_pot, hx]); rw [hp, fs_it, List.length_append] at hb; omega) (by simp only [fs_it, List.length_append] at hi; omega) ⟨by omega, by rw [i3 0 (by omega)]; exact h01.2.1, by rw [i3 1 (by omega)]; exact h01.2.2⟩) rfl cw_Mo_158 rfl rfl rfl rfl rfl rfl (Nat.le_refl _) (Nat.le_refl _) (fun r h' hp => ?_)
    obtain ⟨n4, lf4, rt4, nx4, sz4, hg4, hd4, pS4, pF4, pT4, pL4, it4, wh4, dn4, t4, q14, q24, q34, q44, q54, rfl, rfl⟩ := hp
    refine aw_go 0 84 [some (.ref 0), some (.int (nI rr.length)), some (.int (nI j'))] [] (moH lf4 rt4 nx4 sz4 hg4 nu hd4 (nI n4) nm le (nI ns) pl wa tx ts ou os wd ws tw tg o1 s1 atp rf rp pS4 pF4 pT4 pL4 (nI (ps_del rr (t' j')).1.length) it4 (nI (fs_it (ps_del rr (t' j')).1).length) wh4 dn4 wk me sh ot) rfl ?_
    exact aw_vret rfl rfl (by rw [hfr]; exact ⟨n4, lf4, rt4, nx4, sz4, hg4, hd4, pS4, pF4, pT4, pL4, it4, wh4, dn4, t4, q14, by omega, fun i hi => by rw [q34 i (by omega)]; exact i3 i hi, q44, (by have hp : fs_pot (x :: rr) = fs_pot rr + 1 := (by simp [fs_pot, hx]); rw [hp, show (fs_it (x :: rr)).length = (fs_it rr).length + x.2.2.1.length from (by simp only [fs_it, List.length_append])]; omega), rfl, rfl⟩) rfl (Nat.le_refl _) (Nat.le_refl _) -- [] (moH lf4 rt4 nx4 sz4 hg4 nu hd4 (nI n4) nm le (nI ns) pl wa tx ts ou os wd ws tw tg o1 s1 atp rf rp pS4 pF4 pT4 pL4 (nI (ps_del rr (t' j')).1.length) it4 (nI (fs_it (ps_del rr (t' j')).1).length) wh4 dn4 wk me sh ot)
  · obtain ⟨m1, rfl⟩ : ∃ m1, m = m1 + 1 := ⟨m - 1, by have z := nle_n (by omega) (by omega) h38; omega⟩
    obtain ⟨i0, hi0, hi0e, hi0t⟩ := hob.mid.2 m1 (by omega)
    refine aw_go 6 51 [some (.ref 0), some (.int (nI rr.length)), some (.int (nI j'))] [] (moH lf' rt' nx' sz' hg' nu hd' (nI n') nm le (nI ns) pl wa tx ts ou os wd ws tw tg o1 s1 atp rf rp pS pF pT pL (nI (rr.length + 1)) it ((nI ((fs_it rr).length + m1 + 1)) - 1) wh 0 wk me sh ot) rfl ?_
    rw [show nI ((fs_it rr).length + m1 + 1) - 1 = nI ((fs_it rr).length + m1) from nI_pred _]
    refine aw_go 5 60 [some (.ref 0), some (.int (nI rr.length)), some (.int (nI j'))] [.int (nI ((fs_it rr).length + m1)), .ref 21, .ref 0] (moH lf' rt' nx' sz' hg' nu hd' (nI n') nm le (nI ns) pl wa tx ts ou os wd ws tw tg o1 s1 atp rf rp pS pF pT pL (nI (rr.length + 1)) it (nI ((fs_it rr).length + m1)) wh 0 wk me sh ot) rfl ?_
    refine aw_ialdN rfl rfl ⟨by omega, by omega⟩ ?_
    rw [hi0e]
    refine aw_go 1 62 [some (.ref 0), some (.int (nI rr.length)), some (.int (nI j'))] [.int (nI j'), .int (nI i0), .ref 0] (moH lf' rt' nx' sz' hg' nu hd' (nI n') nm le (nI ns) pl wa tx ts ou os wd ws tw tg o1 s1 atp rf rp pS pF pT pL (nI (rr.length + 1)) it (nI ((fs_it rr).length + m1)) wh 0 wk me sh ot) rfl ?_
    refine aw_cV [0, 1, 2, 3, 4, 5, 6, 7, 8, 9, 10, 11, 12, 13, 14, 15, 16, 17, 18, 19, 20, 21, 22, 23, 24] (c_Mo_pair l lf' rt' nx' sz' hg' nu hd' nm le pl wa tx ts ou os wd ws tw tg o1 s1 atp rf rp pS pF pT pL (nI (rr.length + 1)) it (nI ((fs_it rr).length + m1)) wh 0 wk me sh ot n' ns t' i1 i0 j' (by omega) i6 (by simp only [fs_it, List.length_append, fs_pot] at hb; omega)) rfl cw_Mo_127 rfl rfl rfl rfl rfl rfl (Nat.le_refl _) (Nat.le_refl _) (fun r h' hp => ?_)
    obtain ⟨j3, n3, lf3, rt3, nx3, sz3, hg3, hd3, t3, g13, g23, g33, g43, g53, g63, rfl, rfl⟩ := hp
    refine aw_go 2 28 [some (.ref 0), some (.int (nI rr.length)), some (.int (nI j3))] [] (moH lf3 rt3 nx3 sz3 hg3 nu hd3 (nI n3) nm le (nI ns) pl wa tx ts ou os wd ws tw tg o1 s1 atp rf rp pS pF pT pL (nI (rr.length + 1)) it (nI ((fs_it rr).length + m1)) wh 0 wk me sh ot) rfl ?_
    -- LOOP 28: [some (.ref 0), some (.int (nI rr.length)), some (.int (nI j3))] [] (moH lf3 rt3 nx3 sz3 hg3 nu hd3 (nI n3) nm le (nI ns) pl wa tx ts ou os wd ws tw tg o1 s1 atp rf rp pS pF pT pL (nI (rr.length + 1)) it (nI ((fs_it rr).length + m1)) wh 0 wk me sh ot)
    exact aw_eq rfl rfl rfl (ih (m1, nI j3, _) ⟨n3, lf3, rt3, nx3, sz3, hg3, hd3, t3, m1, j3, g13, by omega, fun i hi => by rw [g63 i (by omega)]; exact i3 i hi, by omega, by omega, g23, by rw [g33, i7, i3 i0 hi0]; exact (rd_dr hi0t).symm, rfl, rfl, rfl⟩ (by show m1 < m1 + 1; omega))
