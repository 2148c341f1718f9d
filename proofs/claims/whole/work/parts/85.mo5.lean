/-! the model: skip, atom -/
def dg (T : Nat → Nat) : Nat → Nat → Bool → Bool
  | _, 0, b => b
  | k, q + 1, b => dg T (k + 1) q (b && sg_dig (T k))
theorem dg_s {T : Nat → Nat} {k b : Nat} {f : Bool} (h : k < b) : dg T k (b - k) f = dg T (k + 1) (b - (k + 1)) (f && sg_dig (T k)) := by
  rw [show b - k = (b - (k + 1)) + 1 by omega]
  rfl
theorem dg_all (T : Nat → Nat) : ∀ (q k : Nat) (b : Bool), dg T k q b = true → b = true ∧ ∀ j, k ≤ j → j < k + q → sg_dig (T j) = true := by
  intro q
  induction q with
  | zero => intro k b h; exact ⟨h, fun j h1 h2 => by omega⟩
  | succ q ih =>
    intro k b h
    obtain ⟨h1, h2⟩ := ih (k + 1) _ h
    rw [Bool.and_eq_true] at h1
    refine ⟨h1.1, fun j g1 g2 => ?_⟩
    rcases Nat.lt_or_ge k j with z | z
    · exact h2 j z (by omega)
    · rw [show j = k by omega]; exact h1.2
theorem tk_run_dg (T : Nat → Nat) : ∀ (q p : Nat) (b : Bool) (e : Nat) (c : Bool), tk_run T q p b = (e, c) → c = dg T p (e - p) b := by
  intro q
  induction q with
  | zero =>
    intro p b e c h
    cases h
    rw [Nat.sub_self]
    rfl
  | succ q ih =>
    intro p b e c h
    unfold tk_run at h
    by_cases ha : sg_at (T p) = true
    · rw [if_pos ha] at h
      have h1 := (tk_run_all T q (p + 1) _ e c h).1
      rw [ih _ _ _ _ h]
      exact (dg_s (by omega)).symm
    · rw [if_neg ha] at h
      cases h
      rw [Nat.sub_self]
      rfl
theorem wlT_snoc (T : Nat → Nat) : ∀ (q a : Nat), wlT T a (q + 1) = wlT T a q ++ [T (a + q)] := by
  intro q
  induction q with
  | zero => intro a; rfl
  | succ q ih =>
    intro a
    rw [show wlT T a (q + 1 + 1) = T a :: wlT T (a + 1) (q + 1) from rfl, ih (a + 1), show wlT T a (q + 1) = T a :: wlT T (a + 1) q from rfl, show a + 1 + q = a + (q + 1) by omega]
    rfl
theorem lN_m1 {v : Nat} (h : v < 9223372036854775808) : lN v ≠ -1 := by
  intro z
  have h1 : (lN v).toInt = (v : Int) := pk_lT (by omega)
  rw [z] at h1
  have : ((-1 : Int64)).toInt = -1 := by decide
  omega
theorem sk_59 {T : Nat → Nat} {L p : Nat} {b : Bool} (h : p < L) (e : T p = 59) : tk_sk T (L - p) p b = tk_sk T (L - p) p true := by
  rw [tk_sk_s h, tk_sk_s h, if_neg (by omega), if_pos e, if_neg (by omega), if_pos e]
theorem sk_10 {T : Nat → Nat} {L p : Nat} {b : Bool} (h : p < L) (e : T p = 10) : tk_sk T (L - p) p b = tk_sk T (L - (p + 1)) (p + 1) false := by
  rw [tk_sk_s h, if_pos e]
theorem sk_32 {T : Nat → Nat} {L p : Nat} {b : Bool} (h : p < L) (e : T p = 32) : tk_sk T (L - p) p b = tk_sk T (L - (p + 1)) (p + 1) b := by
  rw [tk_sk_s h, if_neg (by omega), if_neg (by omega), if_pos (Or.inl e)]
theorem sk_in {T : Nat → Nat} {L p : Nat} (h : p < L) (e : T p ≠ 10) : tk_sk T (L - p) p true = tk_sk T (L - (p + 1)) (p + 1) true := by
  rw [tk_sk_s h, if_neg e]
  by_cases z : T p = 59
  · rw [if_pos z]
  · rw [if_neg z, if_pos (Or.inr rfl)]
theorem sk_no {T : Nat → Nat} {L p : Nat} (h : p < L) (e1 : T p ≠ 10) (e2 : T p ≠ 59) (e3 : T p ≠ 32) : tk_sk T (L - p) p false = p := by
  rw [tk_sk_s h, if_neg e1, if_neg e2, if_neg (by rintro (z | z); exact e3 z; cases z)]
theorem sk_end {T : Nat → Nat} {L p : Nat} {b : Bool} (h : L ≤ p) : tk_sk T (L - p) p b = p := by
  rw [show L - p = 0 by omega]
  rfl
set_option maxHeartbeats 2000000 in
set_option maxRecDepth 100000 in
theorem c_Mo_skip (l : Launch) (lf rt nx sz hg : Nat → Int32) (nu : Nat → Int64) (hd : Nat → Int32) (cn : Int32) (nm le : Nat → Int32) (sy : Int32) (pl wa tx ou : Nat → Int32) (os : Int32) (wd : Nat → Int32) (ws : Int32) (tw : Nat → Int32) (tg : Int32) (o1 : Nat → Int32) (s1 rf rp : Int32) (pS pF pT pL : Nat → Int32) (op : Int32) (it : Nat → Int32) (isz wh dn : Int32) (wk me : Nat → Int32) (sh : Int32) (ot : Nat → Int32) (T : Nat → Nat) (L : Nat) (hT : tx_T tx T L) (p0 : Nat) (hp0 : p0 ≤ L) : Con l y_Mo_skip M_Mo_skip 0 0 [.ref 0] (moH lf rt nx sz hg nu hd cn nm le sy pl wa tx (nI L) ou os wd ws tw tg o1 s1 (nI p0) rf rp pS pF pT pL op it isz wh dn wk me sh ot) 25 0 0 0 (fun r h' => r = none ∧ h' = moH lf rt nx sz hg nu hd cn nm le sy pl wa tx (nI L) ou os wd ws tw tg o1 s1 (nI (tk_sk T (L - p0) p0 false)) rf rp pS pF pT pL op it isz wh dn wk me sh ot) := by
  have hL := hT.1
  refine Con.ent ok_Mo_skip (by decide +kernel) rfl ?_
  intro pA eA sA mA argsA belowA methA cA GA μA
  refine aw_go 2 2 [some (.ref 0), some (.int 1)] [] (moH lf rt nx sz hg nu hd cn nm le sy pl wa tx (nI L) ou os wd ws tw tg o1 s1 (nI p0) rf rp pS pF pT pL op it isz wh dn wk me sh ot) rfl ?_
  refine aw_loop (σ := Nat × Bool) (fun y => y.1 ≤ L ∧ tk_sk T (L - y.1) y.1 false = (tk_sk T (L - p0) p0 false) ∧ (y.2 = false → y.1 = (tk_sk T (L - p0) p0 false))) (fun y => 2 * (L - y.1) + (if y.2 = true then 1 else 0)) (fun y => [some (.ref 0), some (.int (rb y.2))]) (fun _ => []) (fun y => moH lf rt nx sz hg nu hd cn nm le sy pl wa tx (nI L) ou os wd ws tw tg o1 s1 (nI y.1) rf rp pS pF pT pL op it isz wh dn wk me sh ot) ?_ (p0, true) ⟨hp0, rfl, (fun z => nomatch z)⟩
  rintro ⟨p, b⟩ ⟨hpL, hsk, hbf⟩ ih
  dsimp only at hpL hsk hbf ih ⊢
  refine aw_go 1 3 [some (.ref 0), some (.int (rb b))] [.int (rb b)] (moH lf rt nx sz hg nu hd cn nm le sy pl wa tx (nI L) ou os wd ws tw tg o1 s1 (nI p) rf rp pS pF pT pL op it isz wh dn wk me sh ot) rfl ?_
  cases b
  · skip
    refine aw_go 0 3 [some (.ref 0), some (.int 0)] [.int 0] (moH lf rt nx sz hg nu hd cn nm le sy pl wa tx (nI L) ou os wd ws tw tg o1 s1 (nI p) rf rp pS pF pT pL op it isz wh dn wk me sh ot) rfl ?_
    refine aw_if_eq rfl (fun h3 => ?_) (fun h3 => absurd h3 (by decide))
    exact aw_vret rfl rfl ⟨rfl, by rw [hbf rfl]⟩ rfl (Nat.le_refl _) (Nat.le_refl _) -- [] (moH lf rt nx sz hg nu hd cn nm le sy pl wa tx (nI L) ou os wd ws tw tg o1 s1 (nI p) rf rp pS pF pT pL op it isz wh dn wk me sh ot)
  · skip
    refine aw_go 0 3 [some (.ref 0), some (.int 1)] [.int 1] (moH lf rt nx sz hg nu hd cn nm le sy pl wa tx (nI L) ou os wd ws tw tg o1 s1 (nI p) rf rp pS pF pT pL op it isz wh dn wk me sh ot) rfl ?_
    refine aw_if_eq rfl (fun h3 => absurd h3 (by decide)) (fun h3 => ?_)
    refine aw_go 4 14 [some (.ref 0), some (.int 1)] [.int (nI L), .int (nI p)] (moH lf rt nx sz hg nu hd cn nm le sy pl wa tx (nI L) ou os wd ws tw tg o1 s1 (nI p) rf rp pS pF pT pL op it isz wh dn wk me sh ot) rfl ?_
    refine aw_cmp_ge rfl (fun h14 => ?_) (fun h14 => ?_)
    · exact aw_vret rfl rfl ⟨rfl, by rw [← hsk, sk_end (le_n (by omega) (by omega) h14)]⟩ rfl (Nat.le_refl _) (Nat.le_refl _) -- [] (moH lf rt nx sz hg nu hd cn nm le sy pl wa tx (nI L) ou os wd ws tw tg o1 s1 (nI p) rf rp pS pF pT pL op it isz wh dn wk me sh ot)
    · have hp2 : p < L := Nat.not_le.mp fun z => h14 (nI_le z (by omega))
      refine aw_go 4 25 [some (.ref 0), some (.int 1)] [.int (nI p), .ref 12] (moH lf rt nx sz hg nu hd cn nm le sy pl wa tx (nI L) ou os wd ws tw tg o1 s1 (nI p) rf rp pS pF pT pL op it isz wh dn wk me sh ot) rfl ?_
      refine aw_ialdN rfl rfl ⟨by omega, by omega⟩ ?_
      rw [(hT.2 p (by omega)).2]
      refine aw_go 1 28 [some (.ref 0), some (.int 1)] [.int 59, .int (nI (T p))] (moH lf rt nx sz hg nu hd cn nm le sy pl wa tx (nI L) ou os wd ws tw tg o1 s1 (nI p) rf rp pS pF pT pL op it isz wh dn wk me sh ot) rfl ?_
      refine aw_cmp_ne rfl (fun h28 => ?_) (fun h28 => ?_)
      · refine aw_go 4 77 [some (.ref 0), some (.int 1)] [.int (nI p), .ref 12] (moH lf rt nx sz hg nu hd cn nm le sy pl wa tx (nI L) ou os wd ws tw tg o1 s1 (nI p) rf rp pS pF pT pL op it isz wh dn wk me sh ot) rfl ?_
        refine aw_ialdN rfl rfl ⟨by omega, by omega⟩ ?_
        rw [(hT.2 p (by omega)).2]
        refine aw_go 1 80 [some (.ref 0), some (.int 1)] [.int 32, .int (nI (T p))] (moH lf rt nx sz hg nu hd cn nm le sy pl wa tx (nI L) ou os wd ws tw tg o1 s1 (nI p) rf rp pS pF pT pL op it isz wh dn wk me sh ot) rfl ?_
        refine aw_cmp_eq rfl (fun h80 => ?_) (fun h80 => ?_)
        · refine aw_go 6 107 [some (.ref 0), some (.int 1)] [] (moH lf rt nx sz hg nu hd cn nm le sy pl wa tx (nI L) ou os wd ws tw tg o1 s1 ((nI p) + 1) rf rp pS pF pT pL op it isz wh dn wk me sh ot) rfl ?_
          rw [← nI_succ]
          refine aw_go 1 2 [some (.ref 0), some (.int 1)] [] (moH lf rt nx sz hg nu hd cn nm le sy pl wa tx (nI L) ou os wd ws tw tg o1 s1 (nI (p + 1)) rf rp pS pF pT pL op it isz wh dn wk me sh ot) rfl ?_
          -- LOOP 2: [some (.ref 0), some (.int 1)] [] (moH lf rt nx sz hg nu hd cn nm le sy pl wa tx (nI L) ou os wd ws tw tg o1 s1 (nI (p + 1)) rf rp pS pF pT pL op it isz wh dn wk me sh ot)
          exact aw_eq rfl rfl rfl (ih (p + 1, true) ⟨by show p + 1 ≤ L; omega, by rw [← hsk]; exact (sk_32 hp2 (tk_c (k := 32) (hT.2 p hp2).1 (by omega) h80)).symm, (fun z => nomatch z)⟩ (by show 2 * (L - (p + 1)) + 1 < 2 * (L - p) + 1; omega))
        · refine aw_go 4 91 [some (.ref 0), some (.int 1)] [.int (nI p), .ref 12] (moH lf rt nx sz hg nu hd cn nm le sy pl wa tx (nI L) ou os wd ws tw tg o1 s1 (nI p) rf rp pS pF pT pL op it isz wh dn wk me sh ot) rfl ?_
          refine aw_ialdN rfl rfl ⟨by omega, by omega⟩ ?_
          rw [(hT.2 p (by omega)).2]
          refine aw_go 1 94 [some (.ref 0), some (.int 1)] [.int 10, .int (nI (T p))] (moH lf rt nx sz hg nu hd cn nm le sy pl wa tx (nI L) ou os wd ws tw tg o1 s1 (nI p) rf rp pS pF pT pL op it isz wh dn wk me sh ot) rfl ?_
          refine aw_cmp_ne rfl (fun h94 => ?_) (fun h94 => ?_)
          · refine aw_go 3 2 [some (.ref 0), some (.int 0)] [] (moH lf rt nx sz hg nu hd cn nm le sy pl wa tx (nI L) ou os wd ws tw tg o1 s1 (nI p) rf rp pS pF pT pL op it isz wh dn wk me sh ot) rfl ?_
            -- LOOP 2: [some (.ref 0), some (.int 0)] [] (moH lf rt nx sz hg nu hd cn nm le sy pl wa tx (nI L) ou os wd ws tw tg o1 s1 (nI p) rf rp pS pF pT pL op it isz wh dn wk me sh ot)
            exact aw_eq rfl rfl rfl (ih (p, false) ⟨hpL, hsk, fun _ => by rw [← hsk]; exact (sk_no hp2 (tk_n (k := 10) h94) (tk_n (k := 59) h28) (tk_n (k := 32) h80)).symm⟩ (by show 2 * (L - p) + 0 < 2 * (L - p) + 1; omega))
          · refine aw_go 6 107 [some (.ref 0), some (.int 1)] [] (moH lf rt nx sz hg nu hd cn nm le sy pl wa tx (nI L) ou os wd ws tw tg o1 s1 ((nI p) + 1) rf rp pS pF pT pL op it isz wh dn wk me sh ot) rfl ?_
            rw [← nI_succ]
            refine aw_go 1 2 [some (.ref 0), some (.int 1)] [] (moH lf rt nx sz hg nu hd cn nm le sy pl wa tx (nI L) ou os wd ws tw tg o1 s1 (nI (p + 1)) rf rp pS pF pT pL op it isz wh dn wk me sh ot) rfl ?_
            -- LOOP 2: [some (.ref 0), some (.int 1)] [] (moH lf rt nx sz hg nu hd cn nm le sy pl wa tx (nI L) ou os wd ws tw tg o1 s1 (nI (p + 1)) rf rp pS pF pT pL op it isz wh dn wk me sh ot)
            exact aw_eq rfl rfl rfl (ih (p + 1, true) ⟨by show p + 1 ≤ L; omega, by rw [← hsk]; exact (sk_10 hp2 (tk_c (k := 10) (hT.2 p hp2).1 (by omega) h94)).symm, (fun z => nomatch z)⟩ (by show 2 * (L - (p + 1)) + 1 < 2 * (L - p) + 1; omega))
      · -- LOOP 31: [some (.ref 0), some (.int 1)] [] (moH lf rt nx sz hg nu hd cn nm le sy pl wa tx (nI L) ou os wd ws tw tg o1 s1 (nI p) rf rp pS pF pT pL op it isz wh dn wk me sh ot)
        refine aw_loop (σ := Nat) (fun y => p ≤ y ∧ y ≤ L ∧ tk_sk T (L - y) y true = (tk_sk T (L - p0) p0 false)) (fun y => L - y) (fun _ => [some (.ref 0), some (.int 1)]) (fun _ => []) (fun y => moH lf rt nx sz hg nu hd cn nm le sy pl wa tx (nI L) ou os wd ws tw tg o1 s1 (nI y) rf rp pS pF pT pL op it isz wh dn wk me sh ot) ?_ p ⟨Nat.le_refl _, by omega, by rw [← sk_59 (b := false) hp2 (tk_c (k := 59) (hT.2 p hp2).1 (by omega) h28)]; exact hsk⟩
        rintro k ⟨hk1, hk2, hk3⟩ ih2
        have h59 : T p = 59 := tk_c (k := 59) (hT.2 p hp2).1 (by omega) h28
        refine aw_go 4 39 [some (.ref 0), some (.int 1)] [.int (nI L), .int (nI k)] (moH lf rt nx sz hg nu hd cn nm le sy pl wa tx (nI L) ou os wd ws tw tg o1 s1 (nI k) rf rp pS pF pT pL op it isz wh dn wk me sh ot) rfl ?_
        refine aw_cmp_ge rfl (fun h39 => ?_) (fun h39 => ?_)
        · -- LOOP 2: [some (.ref 0), some (.int 1)] [] (moH lf rt nx sz hg nu hd cn nm le sy pl wa tx (nI L) ou os wd ws tw tg o1 s1 (nI k) rf rp pS pF pT pL op it isz wh dn wk me sh ot)
          exact aw_eq rfl rfl rfl (ih (k, true) ⟨by show k ≤ L; omega, by rw [← hk3, sk_end (le_n (by omega) (by omega) h39), sk_end (le_n (by omega) (by omega) h39)], (fun z => nomatch z)⟩ (by have := le_n (by omega) (by omega) h39; show 2 * (L - k) + 1 < 2 * (L - p) + 1; omega))
        · have hkL : k < L := Nat.not_le.mp fun z => h39 (nI_le z (by omega))
          refine aw_go 4 50 [some (.ref 0), some (.int 1)] [.int (nI k), .ref 12] (moH lf rt nx sz hg nu hd cn nm le sy pl wa tx (nI L) ou os wd ws tw tg o1 s1 (nI k) rf rp pS pF pT pL op it isz wh dn wk me sh ot) rfl ?_
          refine aw_ialdN rfl rfl ⟨by omega, by omega⟩ ?_
          rw [(hT.2 k (by omega)).2]
          refine aw_go 1 53 [some (.ref 0), some (.int 1)] [.int 10, .int (nI (T k))] (moH lf rt nx sz hg nu hd cn nm le sy pl wa tx (nI L) ou os wd ws tw tg o1 s1 (nI k) rf rp pS pF pT pL op it isz wh dn wk me sh ot) rfl ?_
          refine aw_cmp_eq rfl (fun h53 => ?_) (fun h53 => ?_)
          · -- LOOP 2: [some (.ref 0), some (.int 1)] [] (moH lf rt nx sz hg nu hd cn nm le sy pl wa tx (nI L) ou os wd ws tw tg o1 s1 (nI k) rf rp pS pF pT pL op it isz wh dn wk me sh ot)
            exact aw_eq rfl rfl rfl (ih (k, true) ⟨by show k ≤ L; omega, by rw [← hk3, sk_10 hkL (tk_c (k := 10) (hT.2 k hkL).1 (by omega) h53), sk_10 hkL (tk_c (k := 10) (hT.2 k hkL).1 (by omega) h53)], (fun z => nomatch z)⟩ (by have : p ≠ k := (fun z => by have z2 := tk_c (k := 10) (hT.2 k hkL).1 (by omega) h53; rw [← z] at z2; omega); show 2 * (L - k) + 1 < 2 * (L - p) + 1; omega))
          · refine aw_go 6 66 [some (.ref 0), some (.int 1)] [] (moH lf rt nx sz hg nu hd cn nm le sy pl wa tx (nI L) ou os wd ws tw tg o1 s1 ((nI k) + 1) rf rp pS pF pT pL op it isz wh dn wk me sh ot) rfl ?_
            rw [← nI_succ]
            refine aw_go 1 31 [some (.ref 0), some (.int 1)] [] (moH lf rt nx sz hg nu hd cn nm le sy pl wa tx (nI L) ou os wd ws tw tg o1 s1 (nI (k + 1)) rf rp pS pF pT pL op it isz wh dn wk me sh ot) rfl ?_
            -- LOOP 31: [some (.ref 0), some (.int 1)] [] (moH lf rt nx sz hg nu hd cn nm le sy pl wa tx (nI L) ou os wd ws tw tg o1 s1 (nI (k + 1)) rf rp pS pF pT pL op it isz wh dn wk me sh ot)
            exact aw_eq rfl rfl rfl (ih2 (k + 1) ⟨by omega, by omega, by rw [← hk3]; exact (sk_in hkL (tk_n (k := 10) h53)).symm⟩ (by omega))
set_option maxHeartbeats 2000000 in
set_option maxRecDepth 100000 in
theorem c_Mo_atom (l : Launch) (lf rt nx sz hg : Nat → Int32) (nu : Nat → Int64) (hd nm le pl wa tx : Nat → Int32) (ts : Int32) (ou : Nat → Int32) (os : Int32) (wd : Nat → Int32) (ws : Int32) (tw : Nat → Int32) (tg : Int32) (o1 : Nat → Int32) (s1 atp rf rp : Int32) (pS pF pT pL : Nat → Int32) (op : Int32) (it : Nat → Int32) (isz wh dn : Int32) (wk me : Nat → Int32) (sh : Int32) (ot : Nat → Int32) (n ns : Nat) (t : Nat → Tr) (hm : mo_tb n ns lf rt nx hg nu hd nm le t) (T : Nat → Nat) (L : Nat) (hT : tx_T tx T L) (a b : Nat) (hab : a < b) (hbL : b ≤ L) (hat : ∀ j, a ≤ j → j < b → sg_at (T j) = true) (hn : n < 16000) (hns : ns < 3000) : Con l y_Mo_atom M_Mo_atom 2 47 [.ref 0, .int (nI a), .int (nI b)] (moH lf rt nx sz hg nu hd (nI n) nm le (nI ns) pl wa tx ts ou os wd ws tw tg o1 s1 atp rf rp pS pF pT pL op it isz wh dn wk me sh ot) 25 0 0 0 (fun r h' => (tk_av T a (b, dg T a (b - a) true) = -1 ∧ r = some (.int (-1)) ∧ h' = moH lf rt nx sz hg nu hd (nI n) nm le (nI ns) pl wa tx ts ou os wd ws tw tg o1 s1 atp rf rp pS pF pT pL op it isz wh dn wk me sh ot) ∨ (tk_av T a (b, dg T a (b - a) true) ≠ -1 ∧ ∃ (j n2 ns2 : Nat) (lf2 rt2 nx2 sz2 hg2 : Nat → Int32) (nu2 : Nat → Int64) (hd2 nm2 le2 wd2 : Nat → Int32) (ws2 : Int32) (t2 : Nat → Tr), mo_tb n2 ns2 lf2 rt2 nx2 hg2 nu2 hd2 nm2 le2 t2 ∧ j < n2 ∧ t2 j = (if dg T a (b - a) true = true then tr_nat ((tk_nv T (b - a) a 0).getD 0) else tr_sym (tk_sv T (b - a) a 0)) ∧ n ≤ n2 ∧ n2 ≤ n + 1 ∧ ns ≤ ns2 ∧ ns2 ≤ ns + 1 ∧ (∀ i, i < n → t2 i = t i) ∧ r = some (.int (nI j)) ∧ h' = moH lf2 rt2 nx2 sz2 hg2 nu2 hd2 (nI n2) nm2 le2 (nI ns2) pl wa tx ts ou os wd2 ws2 tw tg o1 s1 atp rf rp pS pF pT pL op it isz wh dn wk me sh ot)) := by
  have hL := hT.1
  refine Con.ent ok_Mo_atom (by decide +kernel) rfl ?_
  intro pA eA sA mA argsA belowA methA cA GA μA
  refine aw_go 4 5 [some (.ref 0), some (.int (nI a)), some (.int (nI b)), some (.int 1), some (.int (nI a)), none, none] [] (moH lf rt nx sz hg nu hd (nI n) nm le (nI ns) pl wa tx ts ou os wd ws tw tg o1 s1 atp rf rp pS pF pT pL op it isz wh dn wk me sh ot) rfl ?_
  refine aw_loop (σ := Nat × Bool) (fun y => a ≤ y.1 ∧ y.1 ≤ b ∧ dg T y.1 (b - y.1) y.2 = dg T a (b - a) true) (fun y => b - y.1) (fun y => [some (.ref 0), some (.int (nI a)), some (.int (nI b)), some (.int (rb y.2)), some (.int (nI y.1)), none, none]) (fun _ => []) (fun _ => moH lf rt nx sz hg nu hd (nI n) nm le (nI ns) pl wa tx ts ou os wd ws tw tg o1 s1 atp rf rp pS pF pT pL op it isz wh dn wk me sh ot) ?_ (a, true) ⟨Nat.le_refl _, by omega, rfl⟩
  rintro ⟨k, f⟩ ⟨hk1, hk2, hdg⟩ ih
  dsimp only at hk1 hk2 hdg ih ⊢
  refine aw_go 2 8 [some (.ref 0), some (.int (nI a)), some (.int (nI b)), some (.int (rb f)), some (.int (nI k)), none, none] [.int (nI b), .int (nI k)] (moH lf rt nx sz hg nu hd (nI n) nm le (nI ns) pl wa tx ts ou os wd ws tw tg o1 s1 atp rf rp pS pF pT pL op it isz wh dn wk me sh ot) rfl ?_
  refine aw_cmp_ge rfl (fun h8 => ?_) (fun h8 => ?_)
  · refine aw_go 1 41 [some (.ref 0), some (.int (nI a)), some (.int (nI b)), some (.int (rb f)), some (.int (nI k)), none, none] [.int (rb f)] (moH lf rt nx sz hg nu hd (nI n) nm le (nI ns) pl wa tx ts ou os wd ws tw tg o1 s1 atp rf rp pS pF pT pL op it isz wh dn wk me sh ot) rfl ?_
    have hke0 : k = b := (by have z := le_n (by omega) (by omega) h8; omega)
    have hD : dg T a (b - a) true = f := (by rw [← hdg, hke0, Nat.sub_self]; rfl)
    cases f
    · skip
      refine aw_go 0 41 [some (.ref 0), some (.int (nI a)), some (.int (nI b)), some (.int 0), some (.int (nI k)), none, none] [.int 0] (moH lf rt nx sz hg nu hd (nI n) nm le (nI ns) pl wa tx ts ou os wd ws tw tg o1 s1 atp rf rp pS pF pT pL op it isz wh dn wk me sh ot) rfl ?_
      refine aw_if_eq rfl (fun h41 => ?_) (fun h41 => absurd h41 (by decide))
      refine aw_go 3 120 [some (.ref 0), some (.int (nI a)), some (.int (nI b)), some (.int 0), some (.int (nI k)), none, none] [.int ((nI b) - (nI a))] (moH lf rt nx sz hg nu hd (nI n) nm le (nI ns) pl wa tx ts ou os wd ws tw tg o1 s1 atp rf rp pS pF pT pL op it isz wh dn wk me sh ot) rfl ?_
      rw [show nI b - nI a = nI (b - a) from pk_sub (by omega)]
      refine aw_go 1 122 [some (.ref 0), some (.int (nI a)), some (.int (nI b)), some (.int 0), some (.int (nI k)), none, none] [.int 11, .int (nI (b - a))] (moH lf rt nx sz hg nu hd (nI n) nm le (nI ns) pl wa tx ts ou os wd ws tw tg o1 s1 atp rf rp pS pF pT pL op it isz wh dn wk me sh ot) rfl ?_
      refine aw_cmp_le rfl (fun h122 => ?_) (fun h122 => ?_)
      · have h11 : b - a ≤ 11 := le_n (k := 11) (by omega) (by omega) h122
        refine aw_go 5 135 [some (.ref 0), some (.int (nI a)), some (.int (nI b)), some (.int 0), some (.int (nI a)), none, none] [] (moH lf rt nx sz hg nu hd (nI n) nm le (nI ns) pl wa tx ts ou os wd 0 tw tg o1 s1 atp rf rp pS pF pT pL op it isz wh dn wk me sh ot) rfl ?_
        -- LOOP 135: [some (.ref 0), some (.int (nI a)), some (.int (nI b)), some (.int 0), some (.int (nI a)), none, none] [] (moH lf rt nx sz hg nu hd (nI n) nm le (nI ns) pl wa tx ts ou os wd 0 tw tg o1 s1 atp rf rp pS pF pT pL op it isz wh dn wk me sh ot)
        refine aw_loop (σ := Nat × am_H) (fun y => ∃ wd', a ≤ y.1 ∧ y.1 ≤ b ∧ wd_R wd' (wlT T a (y.1 - a)) ∧ y.2 = moH lf rt nx sz hg nu hd (nI n) nm le (nI ns) pl wa tx ts ou os wd' (nI (wlT T a (y.1 - a)).length) tw tg o1 s1 atp rf rp pS pF pT pL op it isz wh dn wk me sh ot) (fun y => b - y.1) (fun y => [some (.ref 0), some (.int (nI a)), some (.int (nI b)), some (.int 0), some (.int (nI y.1)), none, none]) (fun _ => []) (fun y => y.2) ?_ (a, moH lf rt nx sz hg nu hd (nI n) nm le (nI ns) pl wa tx ts ou os wd 0 tw tg o1 s1 atp rf rp pS pF pT pL op it isz wh dn wk me sh ot) ⟨wd, Nat.le_refl _, by show a ≤ b; omega, by rw [Nat.sub_self]; exact wd_R_nil wd, by rw [Nat.sub_self]; rfl⟩
        rintro ⟨k, hh⟩ ⟨wd', hk3, hk4, hwd, he⟩ ih2
        dsimp only at hk3 hk4 hwd he ih2 ⊢
        subst he
        refine aw_go 2 138 [some (.ref 0), some (.int (nI a)), some (.int (nI b)), some (.int 0), some (.int (nI k)), none, none] [.int (nI b), .int (nI k)] (moH lf rt nx sz hg nu hd (nI n) nm le (nI ns) pl wa tx ts ou os wd' (nI (wlT T a (k - a)).length) tw tg o1 s1 atp rf rp pS pF pT pL op it isz wh dn wk me sh ot) rfl ?_
        refine aw_cmp_ge rfl (fun h138 => ?_) (fun h138 => ?_)
        · have hke : k = b := (by have z := le_n (by omega) (by omega) h138; omega)
          have hlw : (wlT T a (k - a)).length = k - a := wlT_len _ _ _
          have hwv : wv (wlT T a (k - a)) := ⟨by omega, by omega, wlT_mem (P := fun c => sg_at c = true) _ _ (fun j h1 h2 => hat j h1 (by omega))⟩
          refine aw_go 1 159 [some (.ref 0), some (.int (nI a)), some (.int (nI b)), some (.int 0), some (.int (nI k)), none, none] [.ref 0] (moH lf rt nx sz hg nu hd (nI n) nm le (nI ns) pl wa tx ts ou os wd' (nI (wlT T a (k - a)).length) tw tg o1 s1 atp rf rp pS pF pT pL op it isz wh dn wk me sh ot) rfl ?_
          refine aw_cV [0, 1, 2, 3, 4, 5, 6, 7, 8, 9, 10, 11, 12, 13, 14, 15, 16, 17, 18, 19, 20, 21, 22, 23, 24] (c_Mo_symbol l lf rt nx sz hg nu hd nm le pl wa tx ts ou os wd' tw tg o1 s1 atp rf rp pS pF pT pL op it isz wh dn wk me sh ot n ns t hm (wlT T a (k - a)) hwd hwv hn hns) rfl cw_Mo_100 rfl rfl rfl rfl rfl rfl (Nat.le_refl _) (Nat.le_refl _) (fun r h' hp => ?_)
          obtain ⟨j, n2, ns2, lf2, rt2, nx2, sz2, hg2, hd2, nm2, le2, t2, g1, g2, g3, g4, g5, g6, g7, g8, rfl, rfl⟩ := hp
          refine aw_go 0 162 [some (.ref 0), some (.int (nI a)), some (.int (nI b)), some (.int 0), some (.int (nI k)), none, none] [.int (nI j)] (moH lf2 rt2 nx2 sz2 hg2 nu hd2 (nI n2) nm2 le2 (nI ns2) pl wa tx ts ou os wd' (nI (wlT T a (k - a)).length) tw tg o1 s1 atp rf rp pS pF pT pL op it isz wh dn wk me sh ot) rfl ?_
          exact aw_iret rfl rfl rfl (by subst hke; exact Or.inr ⟨by rw [hD]; show (if k - a ≤ 11 then lN (tk_sv T (k - a) a 0) else -1) ≠ -1; rw [if_pos h11]; exact lN_m1 (by rw [tk_sv_wc]; have := wc_lt hwv; omega), j, n2, ns2, lf2, rt2, nx2, sz2, hg2, nu, hd2, nm2, le2, _, _, t2, g1, g2, by rw [hD, if_neg (by decide), tk_sv_wc]; exact g3, g4, g5, g6, g7, g8, rfl, rfl⟩) rfl (Nat.le_refl _) (Nat.le_refl _) -- [.int (nI j)] (moH lf2 rt2 nx2 sz2 hg2 nu hd2 (nI n2) nm2 le2 (nI ns2) pl wa tx ts ou os wd' (nI (wlT T a (k - a)).length) tw tg o1 s1 atp rf rp pS pF pT pL op it isz wh dn wk me sh ot)
        · have hkb : k < b := Nat.not_le.mp fun z => h138 (nI_le z (by omega))
          have hlw : (wlT T a (k - a)).length = k - a := wlT_len _ _ _
          have hc := hat k hk3 hkb
          refine aw_go 4 148 [some (.ref 0), some (.int (nI a)), some (.int (nI b)), some (.int 0), some (.int (nI k)), none, none] [.int (nI k), .ref 12, .ref 0] (moH lf rt nx sz hg nu hd (nI n) nm le (nI ns) pl wa tx ts ou os wd' (nI (wlT T a (k - a)).length) tw tg o1 s1 atp rf rp pS pF pT pL op it isz wh dn wk me sh ot) rfl ?_
          refine aw_ialdN rfl rfl ⟨by omega, by omega⟩ ?_
          rw [(hT.2 k (by omega)).2]
          refine aw_cV [0, 1, 2, 3, 4, 5, 6, 7, 8, 9, 10, 11, 12, 13, 14, 15, 16, 17, 18, 19, 20, 21, 22, 23, 24] (c_Mo_spell l lf rt nx sz hg nu hd (nI n) nm le (nI ns) pl wa tx ts ou os wd' tw tg o1 s1 atp rf rp pS pF pT pL op it isz wh dn wk me sh ot (wlT T a (k - a)) (T k) ⟨by rcases Nat.eq_zero_or_pos (T k) with z | z; rw [z] at hc; cases hc; exact z, sg_at_lt hc⟩ hwd (by omega)) rfl cw_Mo_96 rfl rfl rfl rfl rfl rfl (Nat.le_refl _) (Nat.le_refl _) (fun r h' hp => ?_)
          obtain ⟨rfl, rfl⟩ := hp
          refine aw_go 2 135 [some (.ref 0), some (.int (nI a)), some (.int (nI b)), some (.int 0), some (.int ((nI k) + 1)), none, none] [] (moH lf rt nx sz hg nu hd (nI n) nm le (nI ns) pl wa tx ts ou os (upd wd' (wlT T a (k - a)).length (nI (T k))) (nI ((wlT T a (k - a)) ++ [T k]).length) tw tg o1 s1 atp rf rp pS pF pT pL op it isz wh dn wk me sh ot) rfl ?_
          -- LOOP 135: [some (.ref 0), some (.int (nI a)), some (.int (nI b)), some (.int 0), some (.int ((nI k) + 1)), none, none] [] (moH lf rt nx sz hg nu hd (nI n) nm le (nI ns) pl wa tx ts ou os (upd wd' (wlT T a (k - a)).length (nI (T k))) (nI ((wlT T a (k - a)) ++ [T k]).length) tw tg o1 s1 atp rf rp pS pF pT pL op it isz wh dn wk me sh ot)
          exact aw_eq (by simp only [nI_succ]) rfl rfl (ih2 (k + 1, _) ⟨upd wd' (wlT T a (k - a)).length (nI (T k)), by show a ≤ k + 1; omega, by show k + 1 ≤ b; omega, by show wd_R _ (wlT T a (k + 1 - a)); rw [show k + 1 - a = (k - a) + 1 by omega, wlT_snoc, show a + (k - a) = k by omega]; exact hwd.push (by omega), by show _ = moH lf rt nx sz hg nu hd (nI n) nm le (nI ns) pl wa tx ts ou os (upd wd' (wlT T a (k - a)).length (nI (T k))) (nI (wlT T a (k + 1 - a)).length) tw tg o1 s1 atp rf rp pS pF pT pL op it isz wh dn wk me sh ot; rw [show k + 1 - a = (k - a) + 1 by omega, wlT_snoc, show a + (k - a) = k by omega]; rfl⟩ (by show b - (k + 1) < b - k; omega))
      · refine aw_go 1 126 [some (.ref 0), some (.int (nI a)), some (.int (nI b)), some (.int 0), some (.int (nI k)), none, none] [.int (-1)] (moH lf rt nx sz hg nu hd (nI n) nm le (nI ns) pl wa tx ts ou os wd ws tw tg o1 s1 atp rf rp pS pF pT pL op it isz wh dn wk me sh ot) rfl ?_
        exact aw_iret rfl rfl rfl (Or.inl ⟨by rw [hD]; show (if b - a ≤ 11 then _ else _) = _; rw [if_neg (fun z => h122 (nI_le (b := 11) z (by omega)))], rfl, rfl⟩) rfl (Nat.le_refl _) (Nat.le_refl _) -- [.int (-1)] (moH lf rt nx sz hg nu hd (nI n) nm le (nI ns) pl wa tx ts ou os wd ws tw tg o1 s1 atp rf rp pS pF pT pL op it isz wh dn wk me sh ot)
    · have hall := dg_all T _ _ _ hD
      refine aw_go 0 41 [some (.ref 0), some (.int (nI a)), some (.int (nI b)), some (.int 1), some (.int (nI k)), none, none] [.int 1] (moH lf rt nx sz hg nu hd (nI n) nm le (nI ns) pl wa tx ts ou os wd ws tw tg o1 s1 atp rf rp pS pF pT pL op it isz wh dn wk me sh ot) rfl ?_
      refine aw_if_eq rfl (fun h41 => absurd h41 (by decide)) (fun h41 => ?_)
      refine aw_go 4 50 [some (.ref 0), some (.int (nI a)), some (.int (nI b)), some (.int 1), some (.long 0), none, some (.int (nI a))] [] (moH lf rt nx sz hg nu hd (nI n) nm le (nI ns) pl wa tx ts ou os wd ws tw tg o1 s1 atp rf rp pS pF pT pL op it isz wh dn wk me sh ot) rfl ?_
      -- LOOP 50: [some (.ref 0), some (.int (nI a)), some (.int (nI b)), some (.int 1), some (.long 0), none, some (.int (nI a))] [] (moH lf rt nx sz hg nu hd (nI n) nm le (nI ns) pl wa tx ts ou os wd ws tw tg o1 s1 atp rf rp pS pF pT pL op it isz wh dn wk me sh ot)
      refine aw_loop (σ := Nat × Nat) (fun y => a ≤ y.1 ∧ y.1 ≤ b ∧ y.2 ≤ 4611686018427387903 ∧ tk_nv T (b - y.1) y.1 y.2 = tk_nv T (b - a) a 0) (fun y => b - y.1) (fun y => [some (.ref 0), some (.int (nI a)), some (.int (nI b)), some (.int 1), some (.long (lN y.2)), none, some (.int (nI y.1))]) (fun _ => []) (fun _ => moH lf rt nx sz hg nu hd (nI n) nm le (nI ns) pl wa tx ts ou os wd ws tw tg o1 s1 atp rf rp pS pF pT pL op it isz wh dn wk me sh ot) ?_ (a, 0) ⟨Nat.le_refl _, by omega, by show 0 ≤ _; omega, rfl⟩
      rintro ⟨k, v⟩ ⟨hk3, hk4, hvM, hnv⟩ ih2
      dsimp only at hk3 hk4 hvM hnv ih2 ⊢
      refine aw_go 2 53 [some (.ref 0), some (.int (nI a)), some (.int (nI b)), some (.int 1), some (.long (lN v)), none, some (.int (nI k))] [.int (nI b), .int (nI k)] (moH lf rt nx sz hg nu hd (nI n) nm le (nI ns) pl wa tx ts ou os wd ws tw tg o1 s1 atp rf rp pS pF pT pL op it isz wh dn wk me sh ot) rfl ?_
      refine aw_cmp_ge rfl (fun h53 => ?_) (fun h53 => ?_)
      · refine aw_go 2 113 [some (.ref 0), some (.int (nI a)), some (.int (nI b)), some (.int 1), some (.long (lN v)), none, some (.int (nI k))] [.long (lN v), .ref 0] (moH lf rt nx sz hg nu hd (nI n) nm le (nI ns) pl wa tx ts ou os wd ws tw tg o1 s1 atp rf rp pS pF pT pL op it isz wh dn wk me sh ot) rfl ?_
        refine aw_cV [0, 1, 2, 3, 4, 5, 6, 7, 8, 9, 10, 11, 12, 13, 14, 15, 16, 17, 18, 19, 20, 21, 22, 23, 24] (c_Mo_natural l lf rt nx sz hg nu hd nm le pl wa tx ts ou os wd ws tw tg o1 s1 atp rf rp pS pF pT pL op it isz wh dn wk me sh ot n ns t hm v (by omega) hn) rfl cw_Mo_167 rfl rfl rfl rfl rfl rfl (Nat.le_refl _) (Nat.le_refl _) (fun r h' hp => ?_)
        obtain ⟨j, n2, lf2, rt2, nx2, sz2, hg2, nu2, hd2, t2, g1, g2, g3, g4, g5, g6, rfl, rfl⟩ := hp
        refine aw_go 0 116 [some (.ref 0), some (.int (nI a)), some (.int (nI b)), some (.int 1), some (.long (lN v)), none, some (.int (nI k))] [.int (nI j)] (moH lf2 rt2 nx2 sz2 hg2 nu2 hd2 (nI n2) nm le (nI ns) pl wa tx ts ou os wd ws tw tg o1 s1 atp rf rp pS pF pT pL op it isz wh dn wk me sh ot) rfl ?_
        exact aw_iret rfl rfl rfl (by have hke : k = b := (by have z := le_n (by omega) (by omega) h53; omega); subst hke; have hnv2 : tk_nv T (k - a) a 0 = some v := (by rw [← hnv, Nat.sub_self]; rfl); exact Or.inr ⟨by rw [hD]; show oL (tk_nv T (k - a) a 0) ≠ -1; rw [hnv2]; exact lN_m1 (by omega), j, n2, ns, lf2, rt2, nx2, sz2, hg2, nu2, hd2, nm, le, wd, ws, t2, g1, g2, by rw [hD, if_pos rfl, hnv2]; exact g3, g4, g5, Nat.le_refl _, by omega, g6, rfl, rfl⟩) rfl (Nat.le_refl _) (Nat.le_refl _) -- [.int (nI j)] (moH lf2 rt2 nx2 sz2 hg2 nu2 hd2 (nI n2) nm le (nI ns) pl wa tx ts ou os wd ws tw tg o1 s1 atp rf rp pS pF pT pL op it isz wh dn wk me sh ot)
      · have hkb : k < b := Nat.not_le.mp fun z => h53 (nI_le z (by omega))
        have hdk := sg_dig_iff.mp (hall.2 k hk3 (by omega))
        refine aw_go 5 67 [some (.ref 0), some (.int (nI a)), some (.int (nI b)), some (.int 1), some (.long (lN v)), none, some (.int (nI k))] [.int (nI k), .ref 12, .long 4611686018427387903, .long (lN v)] (moH lf rt nx sz hg nu hd (nI n) nm le (nI ns) pl wa tx ts ou os wd ws tw tg o1 s1 atp rf rp pS pF pT pL op it isz wh dn wk me sh ot) rfl ?_
        refine aw_ialdN rfl rfl ⟨by omega, by omega⟩ ?_
        rw [(hT.2 k (by omega)).2]
        refine aw_go 2 71 [some (.ref 0), some (.int (nI a)), some (.int (nI b)), some (.int 1), some (.long (lN v)), none, some (.int (nI k))] [.int ((nI (T k)) - 48), .long 4611686018427387903, .long (lN v)] (moH lf rt nx sz hg nu hd (nI n) nm le (nI ns) pl wa tx ts ou os wd ws tw tg o1 s1 atp rf rp pS pF pT pL op it isz wh dn wk me sh ot) rfl ?_
        rw [show nI (T k) - 48 = nI (T k - 48) from pk_sub (b := 48) hdk.1]
        refine aw_go 2 73 [some (.ref 0), some (.int (nI a)), some (.int (nI b)), some (.int 1), some (.long (lN v)), none, some (.int (nI k))] [.long (4611686018427387903 - (Int32.toInt64 (nI (T k - 48)))), .long (lN v)] (moH lf rt nx sz hg nu hd (nI n) nm le (nI ns) pl wa tx ts ou os wd ws tw tg o1 s1 atp rf rp pS pF pT pL op it isz wh dn wk me sh ot) rfl ?_
        rw [show (4611686018427387903 : Int64) - Int32.toInt64 (nI (T k - 48)) = lN (4611686018427387903 - (T k - 48)) from (by rw [nI_l (by omega)]; exact lN_sub (a := 4611686018427387903) (by omega))]
        refine aw_go 1 76 [some (.ref 0), some (.int (nI a)), some (.int (nI b)), some (.int 1), some (.long (lN v)), none, some (.int (nI k))] [.long 10, .long (lN (4611686018427387903 - (T k - 48))), .long (lN v)] (moH lf rt nx sz hg nu hd (nI n) nm le (nI ns) pl wa tx ts ou os wd ws tw tg o1 s1 atp rf rp pS pF pT pL op it isz wh dn wk me sh ot) rfl ?_
        refine aw_ldiv rfl (by decide) ?_
        rw [show lN (4611686018427387903 - (T k - 48)) / 10 = lN ((4611686018427387903 - (T k - 48)) / 10) from pk_lDiv (b := 10) (by omega) (by omega) (by omega)]
        refine aw_go 1 78 [some (.ref 0), some (.int (nI a)), some (.int (nI b)), some (.int 1), some (.long (lN v)), none, some (.int (nI k))] [.int (lg_cmp (lN v) (lN ((4611686018427387903 - (T k - 48)) / 10)))] (moH lf rt nx sz hg nu hd (nI n) nm le (nI ns) pl wa tx ts ou os wd ws tw tg o1 s1 atp rf rp pS pF pT pL op it isz wh dn wk me sh ot) rfl ?_
        refine aw_if_le rfl (fun h78 => ?_) (fun h78 => ?_)
        · refine aw_go 6 95 [some (.ref 0), some (.int (nI a)), some (.int (nI b)), some (.int 1), some (.long (lN v)), none, some (.int (nI k))] [.int (nI k), .ref 12, .long (10 * (lN v))] (moH lf rt nx sz hg nu hd (nI n) nm le (nI ns) pl wa tx ts ou os wd ws tw tg o1 s1 atp rf rp pS pF pT pL op it isz wh dn wk me sh ot) rfl ?_
          refine aw_ialdN rfl rfl ⟨by omega, by omega⟩ ?_
          rw [(hT.2 k (by omega)).2]
          refine aw_go 2 98 [some (.ref 0), some (.int (nI a)), some (.int (nI b)), some (.int 1), some (.long (lN v)), none, some (.int (nI k))] [.long ((10 * (lN v)) + (Int32.toInt64 (nI (T k))))] (moH lf rt nx sz hg nu hd (nI n) nm le (nI ns) pl wa tx ts ou os wd ws tw tg o1 s1 atp rf rp pS pF pT pL op it isz wh dn wk me sh ot) rfl ?_
          rw [show 10 * lN v + Int32.toInt64 (nI (T k)) = lN (10 * v + T k) from (by rw [nI_l (by omega), show (10 : Int64) * lN v = lN (10 * v) from lN_mul 10 v, lN_add])]
          refine aw_go 2 102 [some (.ref 0), some (.int (nI a)), some (.int (nI b)), some (.int 1), some (.long (lN v)), none, some (.int (nI k))] [.long ((lN (10 * v + T k)) - 48)] (moH lf rt nx sz hg nu hd (nI n) nm le (nI ns) pl wa tx ts ou os wd ws tw tg o1 s1 atp rf rp pS pF pT pL op it isz wh dn wk me sh ot) rfl ?_
          rw [show lN (10 * v + T k) - 48 = lN (10 * v + (T k - 48)) from (by rw [show (48 : Int64) = lN 48 from rfl, lN_sub (a := 10 * v + T k) (b := 48) (by omega)]; congr 1; omega)]
          refine aw_go 3 50 [some (.ref 0), some (.int (nI a)), some (.int (nI b)), some (.int 1), some (.long (lN (10 * v + (T k - 48)))), none, some (.int ((nI k) + 1))] [] (moH lf rt nx sz hg nu hd (nI n) nm le (nI ns) pl wa tx ts ou os wd ws tw tg o1 s1 atp rf rp pS pF pT pL op it isz wh dn wk me sh ot) rfl ?_
          -- LOOP 50: [some (.ref 0), some (.int (nI a)), some (.int (nI b)), some (.int 1), some (.long (lN (10 * v + (T k - 48)))), none, some (.int ((nI k) + 1))] [] (moH lf rt nx sz hg nu hd (nI n) nm le (nI ns) pl wa tx ts ou os wd ws tw tg o1 s1 atp rf rp pS pF pT pL op it isz wh dn wk me sh ot)
          exact aw_eq (by simp only [nI_succ]) rfl rfl (ih2 (k + 1, 10 * v + (T k - 48)) ⟨by show a ≤ k + 1; omega, by show k + 1 ≤ b; omega, by show 10 * v + (T k - 48) ≤ 4611686018427387903; have := tk_cgt (by omega) (by omega) h78; omega, by rw [← hnv, tk_nv_s hkb, if_pos (tk_cgt (by omega) (by omega) h78)]⟩ (by show b - (k + 1) < b - k; omega))
        · refine aw_go 1 82 [some (.ref 0), some (.int (nI a)), some (.int (nI b)), some (.int 1), some (.long (lN v)), none, some (.int (nI k))] [.int (-1)] (moH lf rt nx sz hg nu hd (nI n) nm le (nI ns) pl wa tx ts ou os wd ws tw tg o1 s1 atp rf rp pS pF pT pL op it isz wh dn wk me sh ot) rfl ?_
          exact aw_iret rfl rfl rfl (Or.inl ⟨by rw [hD]; show oL (tk_nv T (b - a) a 0) = -1; rw [← hnv, tk_nv_s hkb, if_neg (fun z => h78 (tk_cle (by omega) (by omega) z))]; rfl, rfl, rfl⟩) rfl (Nat.le_refl _) (Nat.le_refl _) -- [.int (-1)] (moH lf rt nx sz hg nu hd (nI n) nm le (nI ns) pl wa tx ts ou os wd ws tw tg o1 s1 atp rf rp pS pF pT pL op it isz wh dn wk me sh ot)
  · have hkb : k < b := Nat.not_le.mp fun z => h8 (nI_le z (by omega))
    refine aw_go 1 12 [some (.ref 0), some (.int (nI a)), some (.int (nI b)), some (.int (rb f)), some (.int (nI k)), none, none] [.int (rb f)] (moH lf rt nx sz hg nu hd (nI n) nm le (nI ns) pl wa tx ts ou os wd ws tw tg o1 s1 atp rf rp pS pF pT pL op it isz wh dn wk me sh ot) rfl ?_
    cases f
    · skip
      refine aw_go 0 12 [some (.ref 0), some (.int (nI a)), some (.int (nI b)), some (.int 0), some (.int (nI k)), none, none] [.int 0] (moH lf rt nx sz hg nu hd (nI n) nm le (nI ns) pl wa tx ts ou os wd ws tw tg o1 s1 atp rf rp pS pF pT pL op it isz wh dn wk me sh ot) rfl ?_
      refine aw_if_eq rfl (fun h12 => ?_) (fun h12 => absurd h12 (by decide))
      refine aw_go 4 5 [some (.ref 0), some (.int (nI a)), some (.int (nI b)), some (.int 0), some (.int ((nI k) + 1)), none, none] [] (moH lf rt nx sz hg nu hd (nI n) nm le (nI ns) pl wa tx ts ou os wd ws tw tg o1 s1 atp rf rp pS pF pT pL op it isz wh dn wk me sh ot) rfl ?_
      -- LOOP 5: [some (.ref 0), some (.int (nI a)), some (.int (nI b)), some (.int 0), some (.int ((nI k) + 1)), none, none] [] (moH lf rt nx sz hg nu hd (nI n) nm le (nI ns) pl wa tx ts ou os wd ws tw tg o1 s1 atp rf rp pS pF pT pL op it isz wh dn wk me sh ot)
      exact aw_eq (by simp only [nI_succ]; rfl) rfl rfl (ih (k + 1, false) ⟨by show a ≤ k + 1; omega, by show k + 1 ≤ b; omega, by rw [← hdg, dg_s hkb]; rfl⟩ (by show b - (k + 1) < b - k; omega))
    · skip
      refine aw_go 0 12 [some (.ref 0), some (.int (nI a)), some (.int (nI b)), some (.int 1), some (.int (nI k)), none, none] [.int 1] (moH lf rt nx sz hg nu hd (nI n) nm le (nI ns) pl wa tx ts ou os wd ws tw tg o1 s1 atp rf rp pS pF pT pL op it isz wh dn wk me sh ot) rfl ?_
      refine aw_if_eq rfl (fun h12 => absurd h12 (by decide)) (fun h12 => ?_)
      refine aw_go 3 21 [some (.ref 0), some (.int (nI a)), some (.int (nI b)), some (.int 1), some (.int (nI k)), none, none] [.int (nI k), .ref 12] (moH lf rt nx sz hg nu hd (nI n) nm le (nI ns) pl wa tx ts ou os wd ws tw tg o1 s1 atp rf rp pS pF pT pL op it isz wh dn wk me sh ot) rfl ?_
      refine aw_ialdN rfl rfl ⟨by omega, by omega⟩ ?_
      rw [(hT.2 k (by omega)).2]
      refine aw_cS [] (c_Mo_isDigit l (T k) (hT.2 k (by omega)).1) rfl cw_Mo_130 rfl rfl rfl rfl (Nat.le_refl _) (Nat.le_refl _) (fun r h' hp => ?_)
      obtain ⟨rfl, rfl⟩ := hp
      refine aw_go 0 25 [some (.ref 0), some (.int (nI a)), some (.int (nI b)), some (.int 1), some (.int (nI k)), none, none] [.int (rb (sg_dig (T k)))] (moH lf rt nx sz hg nu hd (nI n) nm le (nI ns) pl wa tx ts ou os wd ws tw tg o1 s1 atp rf rp pS pF pT pL op it isz wh dn wk me sh ot) rfl ?_
      refine aw_if_eq rfl (fun h25 => ?_) (fun h25 => ?_)
      · refine aw_go 4 5 [some (.ref 0), some (.int (nI a)), some (.int (nI b)), some (.int 0), some (.int ((nI k) + 1)), none, none] [] (moH lf rt nx sz hg nu hd (nI n) nm le (nI ns) pl wa tx ts ou os wd ws tw tg o1 s1 atp rf rp pS pF pT pL op it isz wh dn wk me sh ot) rfl ?_
        -- LOOP 5: [some (.ref 0), some (.int (nI a)), some (.int (nI b)), some (.int 0), some (.int ((nI k) + 1)), none, none] [] (moH lf rt nx sz hg nu hd (nI n) nm le (nI ns) pl wa tx ts ou os wd ws tw tg o1 s1 atp rf rp pS pF pT pL op it isz wh dn wk me sh ot)
        exact aw_eq (by simp only [nI_succ]; rfl) rfl rfl (ih (k + 1, false) ⟨by show a ≤ k + 1; omega, by show k + 1 ≤ b; omega, by rw [← hdg, dg_s hkb]; rw [Bool.true_and, rb_0 h25]⟩ (by show b - (k + 1) < b - k; omega))
      · refine aw_go 5 5 [some (.ref 0), some (.int (nI a)), some (.int (nI b)), some (.int 1), some (.int ((nI k) + 1)), none, none] [] (moH lf rt nx sz hg nu hd (nI n) nm le (nI ns) pl wa tx ts ou os wd ws tw tg o1 s1 atp rf rp pS pF pT pL op it isz wh dn wk me sh ot) rfl ?_
        -- LOOP 5: [some (.ref 0), some (.int (nI a)), some (.int (nI b)), some (.int 1), some (.int ((nI k) + 1)), none, none] [] (moH lf rt nx sz hg nu hd (nI n) nm le (nI ns) pl wa tx ts ou os wd ws tw tg o1 s1 atp rf rp pS pF pT pL op it isz wh dn wk me sh ot)
        exact aw_eq (by simp only [nI_succ]; rfl) rfl rfl (ih (k + 1, true) ⟨by show a ≤ k + 1; omega, by show k + 1 ≤ b; omega, by rw [← hdg, dg_s hkb]; rw [Bool.true_and, rb_n0 h25]⟩ (by show b - (k + 1) < b - k; omega))
