/-! the model: what is called from outside -/
def bN (x : Int32) (k : Nat) : Nat := x.toBitVec.toNat / 2 ^ (24 - 8 * k) % 256
theorem sh_by (x s : Int32) (c : Nat) (hs : (s.toBitVec.smod 32).toNat = c) (hc : c = 0 ∨ c = 8 ∨ c = 16 ∨ c = 24) : (x >>> s) &&& 255 = nI (x.toBitVec.toNat / 2 ^ c % 256) := by
  rw [pk_and _ (m := 255) 8 (by decide)]
  have h1 := pk_shr x s c hs
  rw [Int.shiftRight_eq_div_pow] at h1
  have hx : x.toInt = if 2 * x.toBitVec.toNat < 2 ^ 32 then (x.toBitVec.toNat : Int) else (x.toBitVec.toNat : Int) - ((2 ^ 32 : Nat) : Int) := BitVec.toInt_eq_toNat_cond _
  have hy : (x >>> s).toInt = if 2 * (x >>> s).toBitVec.toNat < 2 ^ 32 then ((x >>> s).toBitVec.toNat : Int) else ((x >>> s).toBitVec.toNat : Int) - ((2 ^ 32 : Nat) : Int) := BitVec.toInt_eq_toNat_cond _
  have bx := x.toBitVec.isLt
  have by_ := (x >>> s).toBitVec.isLt
  generalize (x >>> s).toBitVec.toNat = Y at *
  generalize (x >>> s).toInt = YI at *
  generalize x.toBitVec.toNat = X at *
  generalize x.toInt = XI at *
  congr 1
  rcases hc with rfl | rfl | rfl | rfl <;> (split at hx <;> split at hy <;> omega)
theorem wb_sh (x : Int32) {k : Nat} (hk : k < 4) : (x >>> ((24 - (8 * nI k)) &&& 31)) &&& 255 = nI (bN x k) := by
  rcases (show k = 0 ∨ k = 1 ∨ k = 2 ∨ k = 3 by omega) with rfl | rfl | rfl | rfl
  · exact sh_by x _ 24 (by decide) (by omega)
  · exact sh_by x _ 16 (by decide) (by omega)
  · exact sh_by x _ 8 (by decide) (by omega)
  · exact sh_by x _ 0 (by decide) (by omega)
theorem x_wb_bN (g : Nat → Int32) {i q : Nat} (hq : q < 4) : x_wb g (4 * i + q) = bN (g i) q := by
  unfold x_wb bN
  rw [show (4 * i + q) / 4 = i by omega, show (4 * i + q) % 4 = q by omega]
theorem fd_step {wa1 : Nat → Int32} {a b c d e : Int32} {k : Nat} (hk : k < 4) (h : ∀ i, i < 5 → ∀ q, q < k → wa1 (4 * i + q) = nI (x_wb (fdA a b c d e) (4 * i + q))) : ∀ i, i < 5 → ∀ q, q < k + 1 → (upd (upd (upd (upd (upd wa1 k (nI (bN a k))) (4 + k) (nI (bN b k))) (8 + k) (nI (bN c k))) (12 + k) (nI (bN d k))) (16 + k) (nI (bN e k))) (4 * i + q) = nI (x_wb (fdA a b c d e) (4 * i + q)) := by
  intro i hi q hq
  by_cases z : q = k
  · subst z
    rw [x_wb_bN _ hk]
    rcases (show i = 0 ∨ i = 1 ∨ i = 2 ∨ i = 3 ∨ i = 4 by omega) with rfl | rfl | rfl | rfl | rfl
    · rw [pk_un (by omega), pk_un (by omega), pk_un (by omega), pk_un (by omega), show 4 * 0 + q = q by omega, pk_us]; rfl
    · rw [pk_un (by omega), pk_un (by omega), pk_un (by omega), show 4 * 1 + q = 4 + q by omega, pk_us]; rfl
    · rw [pk_un (by omega), pk_un (by omega), show 4 * 2 + q = 8 + q by omega, pk_us]; rfl
    · rw [pk_un (by omega), show 4 * 3 + q = 12 + q by omega, pk_us]; rfl
    · rw [show 4 * 4 + q = 16 + q by omega, pk_us]; rfl
  · rw [pk_un (by omega), pk_un (by omega), pk_un (by omega), pk_un (by omega), pk_un (by omega)]
    exact h i hi q (by omega)
theorem me_in {L : Nat} {x : Int32} (hL : L ≤ 3000) (h1 : ¬ x < 0) (h7 : ¬ 20 < x) (h19 : nI L + x ≤ 3000) : ∃ q, q ≤ 20 ∧ L + q ≤ 3000 ∧ x = nI q := by
  obtain ⟨q, hq, rfl⟩ := nI_of h1
  have b : ¬ 20 < q := fun z => h7 (nI_lt (a := 20) z (by omega))
  rw [nI_add] at h19
  have a := (nI_leI (b := 3000) (by omega) (by omega)).mp h19
  exact ⟨q, by omega, by omega, rfl⟩
theorem me_T {f f2 : Nat → Int32} {T w : Nat → Nat} {L q : Nat} (h : tx_T f T L) (hw : ∀ k, k < 20 → w k < 256) (hq : q ≤ 20 ∧ L + q ≤ 3000) (h4 : ∀ j, j < L → f2 j = f j) (h5 : ∀ j, j < q → f2 (L + j) = nI (w j)) : tx_T f2 (tx_ap T L w) (L + q) := by
  refine ⟨hq.2, fun j hj => ?_⟩
  unfold tx_ap
  by_cases z : j < L
  · rw [if_pos z, h4 j z]
    exact h.2 j z
  · have h6 := h5 (j - L) (by omega)
    rw [show L + (j - L) = j by omega] at h6
    rw [if_neg z, h6]
    exact ⟨hw (j - L) (by omega), rfl⟩
theorem nat_k {ns : Nat} {lf rt : Nat → Int32} {nu : Nat → Int64} {nm le : Nat → Int32} {k c : Nat} (h : (lf k = -1 ∧ ∃ v, v < 4611686018427387904 ∧ nu k = lN v ∧ c = 2 * v) ∨ (lf k = -2 ∧ ∃ s w, s < ns ∧ rt k = nI s ∧ mo_sy nm le s w ∧ c = 2 * wc w + 1)) (hc : c % 2 = 0) : lf k = -1 ∧ ∃ v, v < 4611686018427387904 ∧ nu k = lN v ∧ c = 2 * v := by
  rcases h with h | ⟨-, s, w, -, -, -, h⟩
  · exact h
  · omega
theorem sym_k {ns : Nat} {lf rt : Nat → Int32} {nu : Nat → Int64} {nm le : Nat → Int32} {k c : Nat} (h : (lf k = -1 ∧ ∃ v, v < 4611686018427387904 ∧ nu k = lN v ∧ c = 2 * v) ∨ (lf k = -2 ∧ ∃ s w, s < ns ∧ rt k = nI s ∧ mo_sy nm le s w ∧ c = 2 * wc w + 1)) (hc : c % 2 = 1) : lf k = -2 := by
  rcases h with ⟨-, v, -, -, h⟩ | h
  · omega
  · exact h.1
theorem xs_le {v : Nat} (hv : v < 4611686018427387904) : lg_cmp (lN v) 4611686018427387903 ≤ 0 := tk_cle (b := 4611686018427387903) (by omega) (by omega) (by omega)
theorem xs_gt {x : Int32} (h : x ≤ 0) : ¬ 0 < x := by
  rw [Int32.lt_iff_toInt_lt]
  rw [Int32.le_iff_toInt_le] at h
  omega
set_option maxHeartbeats 2000000 in
set_option maxRecDepth 100000 in
theorem c_Mo_isP1 (l : Launch) (j : Nat) (hj : j < 8) : Con l y_Mo_isPlace M_Mo_isPlace 0 0 [.int (nI j)] ([] : am_H) 0 0 0 0 (fun r h' => r = some (.int 1) ∧ h' = []) := by
  refine Con.ent ok_Mo_isPlace (by decide +kernel) rfl ?_
  intro pA eA sA mA argsA belowA methA cA GA μA
  refine aw_go 1 1 [some (.int (nI j))] [.int (nI j)] [] rfl ?_
  refine aw_if_lt rfl (fun h1 => absurd h1 (nI_pos (by omega))) (fun h1 => ?_)
  refine aw_go 2 7 [some (.int (nI j))] [.int 8, .int (nI j)] [] rfl ?_
  refine aw_cmp_ge rfl (fun h7 => absurd h7 (nI_ge (b := 8) hj (by omega))) (fun h7 => ?_)
  refine aw_go 2 15 [some (.int (nI j))] [.int 1] [] rfl ?_
  exact aw_iret rfl (by decide) rfl ⟨rfl, rfl⟩ rfl (Nat.le_refl _) (Nat.le_refl _) -- [.int 1] []
set_option maxHeartbeats 2000000 in
set_option maxRecDepth 100000 in
theorem c_Mo_isP0 (l : Launch) (p : Int32) (hp : ¬ isP p) : Con l y_Mo_isPlace M_Mo_isPlace 0 0 [.int p] ([] : am_H) 0 0 0 0 (fun r h' => r = some (.int 0) ∧ h' = []) := by
  refine Con.ent ok_Mo_isPlace (by decide +kernel) rfl ?_
  intro pA eA sA mA argsA belowA methA cA GA μA
  refine aw_go 1 1 [some (.int p)] [.int p] [] rfl ?_
  refine aw_if_lt rfl (fun h1 => ?_) (fun h1 => ?_)
  · refine aw_go 1 15 [some (.int p)] [.int 0] [] rfl ?_
    exact aw_iret rfl (by decide) rfl ⟨rfl, rfl⟩ rfl (Nat.le_refl _) (Nat.le_refl _) -- [.int 0] []
  · refine aw_go 2 7 [some (.int p)] [.int 8, .int p] [] rfl ?_
    refine aw_cmp_ge rfl (fun h7 => ?_) (fun h7 => (isP0 hp).elim (fun z => absurd z h1) (fun z => absurd z h7))
    refine aw_go 1 15 [some (.int p)] [.int 0] [] rfl ?_
    exact aw_iret rfl (by decide) rfl ⟨rfl, rfl⟩ rfl (Nat.le_refl _) (Nat.le_refl _) -- [.int 0] []
theorem c_Mo_isPl (l : Launch) (p : Int32) : Con l y_Mo_isPlace M_Mo_isPlace 0 0 [.int p] ([] : am_H) 0 0 0 0 (fun r h' => (isP p ∧ r = some (.int 1) ∧ h' = []) ∨ (¬ isP p ∧ r = some (.int 0) ∧ h' = [])) := by
  by_cases hp : isP p
  · obtain ⟨j, hj, rfl⟩ := id hp
    exact (c_Mo_isP1 l j hj).mono (fun r h' q => Or.inl ⟨hp, q⟩)
  · exact (c_Mo_isP0 l p hp).mono (fun r h' q => Or.inr ⟨hp, q⟩)
set_option maxHeartbeats 2000000 in
set_option maxRecDepth 100000 in
theorem c_Mo_isSymbol_p (l : Launch) (lf rt nx sz hg : Nat → Int32) (nu : Nat → Int64) (hd : Nat → Int32) (cn : Int32) (nm le : Nat → Int32) (sy : Int32) (pl wa tx : Nat → Int32) (ts : Int32) (ou : Nat → Int32) (os : Int32) (wd : Nat → Int32) (ws : Int32) (tw : Nat → Int32) (tg : Int32) (o1 : Nat → Int32) (s1 atp rf rp : Int32) (pS pF pT pL : Nat → Int32) (op : Int32) (it : Nat → Int32) (isz wh dn : Int32) (wk me : Nat → Int32) (sh : Int32) (ot : Nat → Int32) (k a : Nat) (hk : k < 16000) (ha : a < 16000) (hl : lf k = nI a) : Con l y_Mo_isSymbol M_Mo_isSymbol 0 0 [.ref 0, .int (nI k)] (moH lf rt nx sz hg nu hd cn nm le sy pl wa tx ts ou os wd ws tw tg o1 s1 atp rf rp pS pF pT pL op it isz wh dn wk me sh ot) 25 0 0 0 (fun r h' => r = some (.int 0) ∧ h' = moH lf rt nx sz hg nu hd cn nm le sy pl wa tx ts ou os wd ws tw tg o1 s1 atp rf rp pS pF pT pL op it isz wh dn wk me sh ot) := by
  refine Con.ent ok_Mo_isSymbol (by decide +kernel) rfl ?_
  intro pA eA sA mA argsA belowA methA cA GA μA
  refine aw_go 3 5 [some (.ref 0), some (.int (nI k))] [.int (nI k), .ref 1] (moH lf rt nx sz hg nu hd cn nm le sy pl wa tx ts ou os wd ws tw tg o1 s1 atp rf rp pS pF pT pL op it isz wh dn wk me sh ot) rfl ?_
  refine aw_ialdN rfl rfl ⟨by omega, by omega⟩ ?_
  rw [hl]
  refine aw_go 1 8 [some (.ref 0), some (.int (nI k))] [.int (-2), .int (nI a)] (moH lf rt nx sz hg nu hd cn nm le sy pl wa tx ts ou os wd ws tw tg o1 s1 atp rf rp pS pF pT pL op it isz wh dn wk me sh ot) rfl ?_
  refine aw_cmp_ne rfl (fun h8 => ?_) (fun h8 => absurd h8 (nI_m2 (by omega)))
  refine aw_go 1 16 [some (.ref 0), some (.int (nI k))] [.int 0] (moH lf rt nx sz hg nu hd cn nm le sy pl wa tx ts ou os wd ws tw tg o1 s1 atp rf rp pS pF pT pL op it isz wh dn wk me sh ot) rfl ?_
  exact aw_iret rfl (by decide) rfl ⟨rfl, rfl⟩ rfl (Nat.le_refl _) (Nat.le_refl _) -- [.int 0] (moH lf rt nx sz hg nu hd cn nm le sy pl wa tx ts ou os wd ws tw tg o1 s1 atp rf rp pS pF pT pL op it isz wh dn wk me sh ot)
set_option maxHeartbeats 2000000 in
set_option maxRecDepth 100000 in
theorem c_Mo_isNatural_p (l : Launch) (lf rt nx sz hg : Nat → Int32) (nu : Nat → Int64) (hd : Nat → Int32) (cn : Int32) (nm le : Nat → Int32) (sy : Int32) (pl wa tx : Nat → Int32) (ts : Int32) (ou : Nat → Int32) (os : Int32) (wd : Nat → Int32) (ws : Int32) (tw : Nat → Int32) (tg : Int32) (o1 : Nat → Int32) (s1 atp rf rp : Int32) (pS pF pT pL : Nat → Int32) (op : Int32) (it : Nat → Int32) (isz wh dn : Int32) (wk me : Nat → Int32) (sh : Int32) (ot : Nat → Int32) (k a : Nat) (hk : k < 16000) (ha : a < 16000) (hl : lf k = nI a) : Con l y_Mo_isNatural M_Mo_isNatural 0 0 [.ref 0, .int (nI k)] (moH lf rt nx sz hg nu hd cn nm le sy pl wa tx ts ou os wd ws tw tg o1 s1 atp rf rp pS pF pT pL op it isz wh dn wk me sh ot) 25 0 0 0 (fun r h' => r = some (.int 0) ∧ h' = moH lf rt nx sz hg nu hd cn nm le sy pl wa tx ts ou os wd ws tw tg o1 s1 atp rf rp pS pF pT pL op it isz wh dn wk me sh ot) := by
  refine Con.ent ok_Mo_isNatural (by decide +kernel) rfl ?_
  intro pA eA sA mA argsA belowA methA cA GA μA
  refine aw_go 3 5 [some (.ref 0), some (.int (nI k))] [.int (nI k), .ref 1] (moH lf rt nx sz hg nu hd cn nm le sy pl wa tx ts ou os wd ws tw tg o1 s1 atp rf rp pS pF pT pL op it isz wh dn wk me sh ot) rfl ?_
  refine aw_ialdN rfl rfl ⟨by omega, by omega⟩ ?_
  rw [hl]
  refine aw_go 1 7 [some (.ref 0), some (.int (nI k))] [.int (-1), .int (nI a)] (moH lf rt nx sz hg nu hd cn nm le sy pl wa tx ts ou os wd ws tw tg o1 s1 atp rf rp pS pF pT pL op it isz wh dn wk me sh ot) rfl ?_
  refine aw_cmp_ne rfl (fun h7 => ?_) (fun h7 => absurd h7 (nI_m1 (by omega)))
  refine aw_go 1 15 [some (.ref 0), some (.int (nI k))] [.int 0] (moH lf rt nx sz hg nu hd cn nm le sy pl wa tx ts ou os wd ws tw tg o1 s1 atp rf rp pS pF pT pL op it isz wh dn wk me sh ot) rfl ?_
  exact aw_iret rfl (by decide) rfl ⟨rfl, rfl⟩ rfl (Nat.le_refl _) (Nat.le_refl _) -- [.int 0] (moH lf rt nx sz hg nu hd cn nm le sy pl wa tx ts ou os wd ws tw tg o1 s1 atp rf rp pS pF pT pL op it isz wh dn wk me sh ot)
set_option maxHeartbeats 2000000 in
set_option maxRecDepth 100000 in
theorem c_Mo_feed (l : Launch) (lf rt nx sz hg : Nat → Int32) (nu : Nat → Int64) (hd nm le pl wa tx ou wd : Nat → Int32) (ws : Int32) (tw : Nat → Int32) (tg : Int32) (o1 : Nat → Int32) (s1 atp : Int32) (pS pF pT pL : Nat → Int32) (op : Int32) (it : Nat → Int32) (isz wh dn : Int32) (wk me ot : Nat → Int32) (n ns no : Nat) (t : Nat → Tr) (T : Nat → Nat) (L : Nat) (w : Nat → Nat) (P : Nat → Tr) (F FP : Int32) (O : List Nat) (hx : m_in n ns t lf rt nx hg nu hd nm le pl wa tx ou no T L w P O) (a b c d e : Int32) : Con l y_Mo_feed M_Mo_feed 0 0 [.ref 0, .int a, .int b, .int c, .int d, .int e] (moH lf rt nx sz hg nu hd (nI n) nm le (nI ns) pl wa tx (nI L) ou (nI no) wd ws tw tg o1 s1 atp F FP pS pF pT pL op it isz wh dn wk me 0 ot) 25 0 0 0 (fun r h' => r = none ∧ m_ok n ns T L (x_wb (fdA a b c d e)) P F FP O h') := by
  refine Con.ent ok_Mo_feed (by decide +kernel) rfl ?_
  intro pA eA sA mA argsA belowA methA cA GA μA
  refine aw_go 2 3 [some (.ref 0), some (.int a), some (.int b), some (.int c), some (.int d), some (.int e), some (.int 0)] [] (moH lf rt nx sz hg nu hd (nI n) nm le (nI ns) pl wa tx (nI L) ou (nI no) wd ws tw tg o1 s1 atp F FP pS pF pT pL op it isz wh dn wk me 0 ot) rfl ?_
  refine aw_loop (σ := Nat × (Nat → Int32)) (fun y => y.1 ≤ 4 ∧ ∀ i, i < 5 → ∀ q, q < y.1 → y.2 (4 * i + q) = nI (x_wb (fdA a b c d e) (4 * i + q))) (fun y => 4 - y.1) (fun y => [some (.ref 0), some (.int a), some (.int b), some (.int c), some (.int d), some (.int e), some (.int (nI y.1))]) (fun _ => []) (fun y => moH lf rt nx sz hg nu hd (nI n) nm le (nI ns) pl y.2 tx (nI L) ou (nI no) wd ws tw tg o1 s1 atp F FP pS pF pT pL op it isz wh dn wk me 0 ot) ?_ (0, wa) ⟨Nat.zero_le _, fun i hi q hq => absurd hq (Nat.not_lt_zero q)⟩
  rintro ⟨k, wa1⟩ ⟨hk, hI⟩ ih
  dsimp only at hk hI ih ⊢
  refine aw_go 2 6 [some (.ref 0), some (.int a), some (.int b), some (.int c), some (.int d), some (.int e), some (.int (nI k))] [.int 4, .int (nI k)] (moH lf rt nx sz hg nu hd (nI n) nm le (nI ns) pl wa1 tx (nI L) ou (nI no) wd ws tw tg o1 s1 atp F FP pS pF pT pL op it isz wh dn wk me 0 ot) rfl ?_
  refine aw_cmp_ge rfl (fun h6 => ?_) (fun h6 => ?_)
  · exact aw_vret rfl rfl ⟨rfl, m_mk ⟨hx.1, hx.2.1, hx.2.2.1, fun j hj => ⟨x_wb_lt _ _, by have z := hI (j / 4) (by omega) (j % 4) (by have h9 : ¬ k < 4 := (fun z => nI_ge (b := 4) z (by omega) h6); omega); rw [show 4 * (j / 4) + j % 4 = j by omega] at z; exact z⟩, hx.2.2.2.2⟩⟩ rfl (Nat.le_refl _) (Nat.le_refl _) -- [] (moH lf rt nx sz hg nu hd (nI n) nm le (nI ns) pl wa1 tx (nI L) ou (nI no) wd ws tw tg o1 s1 atp F FP pS pF pT pL op it isz wh dn wk me 0 ot)
  · have hk4 : k < 4 := Nat.not_le.mp fun z => h6 (nI_le (a := 4) z (by omega))
    refine aw_go 12 29 [some (.ref 0), some (.int a), some (.int b), some (.int c), some (.int d), some (.int e), some (.int (nI k))] [.int ((a >>> ((24 - (8 * (nI k))) &&& 31)) &&& 255), .int (nI k), .ref 11] (moH lf rt nx sz hg nu hd (nI n) nm le (nI ns) pl wa1 tx (nI L) ou (nI no) wd ws tw tg o1 s1 atp F FP pS pF pT pL op it isz wh dn wk me 0 ot) rfl ?_
    rw [wb_sh a hk4]
    refine aw_iastN rfl rfl ⟨by omega, by omega⟩ ?_
    refine aw_go 5 38 [some (.ref 0), some (.int a), some (.int b), some (.int c), some (.int d), some (.int e), some (.int (nI k))] [.int (4 + (nI k)), .ref 11] (moH lf rt nx sz hg nu hd (nI n) nm le (nI ns) pl (upd wa1 k (nI (bN a k))) tx (nI L) ou (nI no) wd ws tw tg o1 s1 atp F FP pS pF pT pL op it isz wh dn wk me 0 ot) rfl ?_
    rw [show (4 : Int32) + nI k = nI (4 + k) from nI_add 4 k]
    refine aw_go 9 52 [some (.ref 0), some (.int a), some (.int b), some (.int c), some (.int d), some (.int e), some (.int (nI k))] [.int ((b >>> ((24 - (8 * (nI k))) &&& 31)) &&& 255), .int (nI (4 + k)), .ref 11] (moH lf rt nx sz hg nu hd (nI n) nm le (nI ns) pl (upd wa1 k (nI (bN a k))) tx (nI L) ou (nI no) wd ws tw tg o1 s1 atp F FP pS pF pT pL op it isz wh dn wk me 0 ot) rfl ?_
    rw [wb_sh b hk4]
    refine aw_iastN rfl rfl ⟨by omega, by omega⟩ ?_
    refine aw_go 5 62 [some (.ref 0), some (.int a), some (.int b), some (.int c), some (.int d), some (.int e), some (.int (nI k))] [.int (8 + (nI k)), .ref 11] (moH lf rt nx sz hg nu hd (nI n) nm le (nI ns) pl (upd (upd wa1 k (nI (bN a k))) (4 + k) (nI (bN b k))) tx (nI L) ou (nI no) wd ws tw tg o1 s1 atp F FP pS pF pT pL op it isz wh dn wk me 0 ot) rfl ?_
    rw [show (8 : Int32) + nI k = nI (8 + k) from nI_add 8 k]
    refine aw_go 9 76 [some (.ref 0), some (.int a), some (.int b), some (.int c), some (.int d), some (.int e), some (.int (nI k))] [.int ((c >>> ((24 - (8 * (nI k))) &&& 31)) &&& 255), .int (nI (8 + k)), .ref 11] (moH lf rt nx sz hg nu hd (nI n) nm le (nI ns) pl (upd (upd wa1 k (nI (bN a k))) (4 + k) (nI (bN b k))) tx (nI L) ou (nI no) wd ws tw tg o1 s1 atp F FP pS pF pT pL op it isz wh dn wk me 0 ot) rfl ?_
    rw [wb_sh c hk4]
    refine aw_iastN rfl rfl ⟨by omega, by omega⟩ ?_
    refine aw_go 5 86 [some (.ref 0), some (.int a), some (.int b), some (.int c), some (.int d), some (.int e), some (.int (nI k))] [.int (12 + (nI k)), .ref 11] (moH lf rt nx sz hg nu hd (nI n) nm le (nI ns) pl (upd (upd (upd wa1 k (nI (bN a k))) (4 + k) (nI (bN b k))) (8 + k) (nI (bN c k))) tx (nI L) ou (nI no) wd ws tw tg o1 s1 atp F FP pS pF pT pL op it isz wh dn wk me 0 ot) rfl ?_
    rw [show (12 : Int32) + nI k = nI (12 + k) from nI_add 12 k]
    refine aw_go 9 101 [some (.ref 0), some (.int a), some (.int b), some (.int c), some (.int d), some (.int e), some (.int (nI k))] [.int ((d >>> ((24 - (8 * (nI k))) &&& 31)) &&& 255), .int (nI (12 + k)), .ref 11] (moH lf rt nx sz hg nu hd (nI n) nm le (nI ns) pl (upd (upd (upd wa1 k (nI (bN a k))) (4 + k) (nI (bN b k))) (8 + k) (nI (bN c k))) tx (nI L) ou (nI no) wd ws tw tg o1 s1 atp F FP pS pF pT pL op it isz wh dn wk me 0 ot) rfl ?_
    rw [wb_sh d hk4]
    refine aw_iastN rfl rfl ⟨by omega, by omega⟩ ?_
    refine aw_go 5 111 [some (.ref 0), some (.int a), some (.int b), some (.int c), some (.int d), some (.int e), some (.int (nI k))] [.int (16 + (nI k)), .ref 11] (moH lf rt nx sz hg nu hd (nI n) nm le (nI ns) pl (upd (upd (upd (upd wa1 k (nI (bN a k))) (4 + k) (nI (bN b k))) (8 + k) (nI (bN c k))) (12 + k) (nI (bN d k))) tx (nI L) ou (nI no) wd ws tw tg o1 s1 atp F FP pS pF pT pL op it isz wh dn wk me 0 ot) rfl ?_
    rw [show (16 : Int32) + nI k = nI (16 + k) from nI_add 16 k]
    refine aw_go 9 126 [some (.ref 0), some (.int a), some (.int b), some (.int c), some (.int d), some (.int e), some (.int (nI k))] [.int ((e >>> ((24 - (8 * (nI k))) &&& 31)) &&& 255), .int (nI (16 + k)), .ref 11] (moH lf rt nx sz hg nu hd (nI n) nm le (nI ns) pl (upd (upd (upd (upd wa1 k (nI (bN a k))) (4 + k) (nI (bN b k))) (8 + k) (nI (bN c k))) (12 + k) (nI (bN d k))) tx (nI L) ou (nI no) wd ws tw tg o1 s1 atp F FP pS pF pT pL op it isz wh dn wk me 0 ot) rfl ?_
    rw [wb_sh e hk4]
    refine aw_iastN rfl rfl ⟨by omega, by omega⟩ ?_
    refine aw_go 2 3 [some (.ref 0), some (.int a), some (.int b), some (.int c), some (.int d), some (.int e), some (.int ((nI k) + 1))] [] (moH lf rt nx sz hg nu hd (nI n) nm le (nI ns) pl (upd (upd (upd (upd (upd wa1 k (nI (bN a k))) (4 + k) (nI (bN b k))) (8 + k) (nI (bN c k))) (12 + k) (nI (bN d k))) (16 + k) (nI (bN e k))) tx (nI L) ou (nI no) wd ws tw tg o1 s1 atp F FP pS pF pT pL op it isz wh dn wk me 0 ot) rfl ?_
    -- LOOP 3: [some (.ref 0), some (.int a), some (.int b), some (.int c), some (.int d), some (.int e), some (.int ((nI k) + 1))] [] (moH lf rt nx sz hg nu hd (nI n) nm le (nI ns) pl (upd (upd (upd (upd (upd wa1 k (nI (bN a k))) (4 + k) (nI (bN b k))) (8 + k) (nI (bN c k))) (12 + k) (nI (bN d k))) (16 + k) (nI (bN e k))) tx (nI L) ou (nI no) wd ws tw tg o1 s1 atp F FP pS pF pT pL op it isz wh dn wk me 0 ot)
    exact aw_eq (by simp only [nI_succ]) rfl rfl (ih (k + 1, upd (upd (upd (upd (upd wa1 k (nI (bN a k))) (4 + k) (nI (bN b k))) (8 + k) (nI (bN c k))) (12 + k) (nI (bN d k))) (16 + k) (nI (bN e k))) ⟨by show k + 1 ≤ 4; omega, fd_step hk4 hI⟩ (by show 4 - (k + 1) < 4 - k; omega))
set_option maxHeartbeats 2000000 in
set_option maxRecDepth 100000 in
theorem c_Mo_end_n (l : Launch) (lf rt nx sz hg : Nat → Int32) (nu : Nat → Int64) (hd nm le pl wa tx ou wd : Nat → Int32) (ws : Int32) (tw : Nat → Int32) (tg : Int32) (o1 : Nat → Int32) (s1 atp : Int32) (pS pF pT pL : Nat → Int32) (op : Int32) (it : Nat → Int32) (isz wh dn : Int32) (wk me ot : Nat → Int32) (n ns no : Nat) (t : Nat → Tr) (T : Nat → Nat) (L : Nat) (w : Nat → Nat) (P : Nat → Tr) (F FP : Int32) (O : List Nat) (hx : m_in n ns t lf rt nx hg nu hd nm le pl wa tx ou no T L w P O) (x : Int32) (hno : ¬ ∃ q, q ≤ 20 ∧ L + q ≤ 3000 ∧ x = nI q) : Con l y_Mo_end M_Mo_end 0 0 [.ref 0, .int x] (moH lf rt nx sz hg nu hd (nI n) nm le (nI ns) pl wa tx (nI L) ou (nI no) wd ws tw tg o1 s1 atp F FP pS pF pT pL op it isz wh dn wk me 0 ot) 25 0 0 0 (fun r h' => r = some (.int (-1)) ∧ m_ok n ns T L w P F FP O h') := by
  have hL := hx.2.2.1.1
  refine Con.ent ok_Mo_end (by decide +kernel) rfl ?_
  intro pA eA sA mA argsA belowA methA cA GA μA
  refine aw_go 1 1 [some (.ref 0), some (.int x), none] [.int x] (moH lf rt nx sz hg nu hd (nI n) nm le (nI ns) pl wa tx (nI L) ou (nI no) wd ws tw tg o1 s1 atp F FP pS pF pT pL op it isz wh dn wk me 0 ot) rfl ?_
  refine aw_if_lt rfl (fun h1 => ?_) (fun h1 => ?_)
  · refine aw_go 1 23 [some (.ref 0), some (.int x), none] [.int (-1)] (moH lf rt nx sz hg nu hd (nI n) nm le (nI ns) pl wa tx (nI L) ou (nI no) wd ws tw tg o1 s1 atp F FP pS pF pT pL op it isz wh dn wk me 0 ot) rfl ?_
    exact aw_iret rfl rfl rfl ⟨rfl, m_mk hx⟩ rfl (Nat.le_refl _) (Nat.le_refl _) -- [.int (-1)] (moH lf rt nx sz hg nu hd (nI n) nm le (nI ns) pl wa tx (nI L) ou (nI no) wd ws tw tg o1 s1 atp F FP pS pF pT pL op it isz wh dn wk me 0 ot)
  · refine aw_go 2 7 [some (.ref 0), some (.int x), none] [.int 20, .int x] (moH lf rt nx sz hg nu hd (nI n) nm le (nI ns) pl wa tx (nI L) ou (nI no) wd ws tw tg o1 s1 atp F FP pS pF pT pL op it isz wh dn wk me 0 ot) rfl ?_
    refine aw_cmp_gt rfl (fun h7 => ?_) (fun h7 => ?_)
    · refine aw_go 1 23 [some (.ref 0), some (.int x), none] [.int (-1)] (moH lf rt nx sz hg nu hd (nI n) nm le (nI ns) pl wa tx (nI L) ou (nI no) wd ws tw tg o1 s1 atp F FP pS pF pT pL op it isz wh dn wk me 0 ot) rfl ?_
      exact aw_iret rfl rfl rfl ⟨rfl, m_mk hx⟩ rfl (Nat.le_refl _) (Nat.le_refl _) -- [.int (-1)] (moH lf rt nx sz hg nu hd (nI n) nm le (nI ns) pl wa tx (nI L) ou (nI no) wd ws tw tg o1 s1 atp F FP pS pF pT pL op it isz wh dn wk me 0 ot)
    · refine aw_go 5 19 [some (.ref 0), some (.int x), none] [.int 3000, .int ((nI L) + x)] (moH lf rt nx sz hg nu hd (nI n) nm le (nI ns) pl wa tx (nI L) ou (nI no) wd ws tw tg o1 s1 atp F FP pS pF pT pL op it isz wh dn wk me 0 ot) rfl ?_
      refine aw_cmp_le rfl (fun h19 => absurd (me_in hL h1 h7 h19) hno) (fun h19 => ?_)
      refine aw_go 1 23 [some (.ref 0), some (.int x), none] [.int (-1)] (moH lf rt nx sz hg nu hd (nI n) nm le (nI ns) pl wa tx (nI L) ou (nI no) wd ws tw tg o1 s1 atp F FP pS pF pT pL op it isz wh dn wk me 0 ot) rfl ?_
      exact aw_iret rfl rfl rfl ⟨rfl, m_mk hx⟩ rfl (Nat.le_refl _) (Nat.le_refl _) -- [.int (-1)] (moH lf rt nx sz hg nu hd (nI n) nm le (nI ns) pl wa tx (nI L) ou (nI no) wd ws tw tg o1 s1 atp F FP pS pF pT pL op it isz wh dn wk me 0 ot)
set_option maxHeartbeats 2000000 in
set_option maxRecDepth 100000 in
theorem c_Mo_end_y (l : Launch) (lf rt nx sz hg : Nat → Int32) (nu : Nat → Int64) (hd nm le pl wa tx ou wd : Nat → Int32) (ws : Int32) (tw : Nat → Int32) (tg : Int32) (o1 : Nat → Int32) (s1 atp : Int32) (pS pF pT pL : Nat → Int32) (op : Int32) (it : Nat → Int32) (isz wh dn : Int32) (wk me ot : Nat → Int32) (n ns no : Nat) (t : Nat → Tr) (T : Nat → Nat) (L : Nat) (w : Nat → Nat) (P : Nat → Tr) (F FP : Int32) (O : List Nat) (hx : m_in n ns t lf rt nx hg nu hd nm le pl wa tx ou no T L w P O) (q : Nat) (hq : q ≤ 20 ∧ L + q ≤ 3000) : Con l y_Mo_end M_Mo_end 0 0 [.ref 0, .int (nI q)] (moH lf rt nx sz hg nu hd (nI n) nm le (nI ns) pl wa tx (nI L) ou (nI no) wd ws tw tg o1 s1 atp F FP pS pF pT pL op it isz wh dn wk me 0 ot) 25 0 0 0 (fun r h' => r = some (.int (nI (L + q))) ∧ m_ok n ns (tx_ap T L w) (L + q) (fun _ => 0) P F FP O h') := by
  have hL := hx.2.2.1.1
  refine Con.ent ok_Mo_end (by decide +kernel) rfl ?_
  intro pA eA sA mA argsA belowA methA cA GA μA
  refine aw_go 1 1 [some (.ref 0), some (.int (nI q)), none] [.int (nI q)] (moH lf rt nx sz hg nu hd (nI n) nm le (nI ns) pl wa tx (nI L) ou (nI no) wd ws tw tg o1 s1 atp F FP pS pF pT pL op it isz wh dn wk me 0 ot) rfl ?_
  refine aw_if_lt rfl (fun h1 => absurd h1 (nI_pos (by omega))) (fun h1 => ?_)
  refine aw_go 2 7 [some (.ref 0), some (.int (nI q)), none] [.int 20, .int (nI q)] (moH lf rt nx sz hg nu hd (nI n) nm le (nI ns) pl wa tx (nI L) ou (nI no) wd ws tw tg o1 s1 atp F FP pS pF pT pL op it isz wh dn wk me 0 ot) rfl ?_
  refine aw_cmp_gt rfl (fun h7 => absurd h7 (nI_nlt (b := q) (a := 20) hq.1 (by omega))) (fun h7 => ?_)
  refine aw_go 5 19 [some (.ref 0), some (.int (nI q)), none] [.int 3000, .int ((nI L) + (nI q))] (moH lf rt nx sz hg nu hd (nI n) nm le (nI ns) pl wa tx (nI L) ou (nI no) wd ws tw tg o1 s1 atp F FP pS pF pT pL op it isz wh dn wk me 0 ot) rfl ?_
  refine aw_cmp_le rfl (fun h19 => ?_) (fun h19 => absurd (by rw [nI_add]; exact nI_le (b := 3000) hq.2 (by omega)) h19)
  refine aw_go 2 26 [some (.ref 0), some (.int (nI q)), some (.int 0)] [] (moH lf rt nx sz hg nu hd (nI n) nm le (nI ns) pl wa tx (nI L) ou (nI no) wd ws tw tg o1 s1 atp F FP pS pF pT pL op it isz wh dn wk me 0 ot) rfl ?_
  refine aw_loop (σ := Nat × (Nat → Int32)) (fun y => y.1 ≤ q ∧ (∀ j, j < L → y.2 j = tx j) ∧ ∀ j, j < y.1 → y.2 (L + j) = nI (w j)) (fun y => q - y.1) (fun y => [some (.ref 0), some (.int (nI q)), some (.int (nI y.1))]) (fun _ => []) (fun y => moH lf rt nx sz hg nu hd (nI n) nm le (nI ns) pl wa y.2 (nI L) ou (nI no) wd ws tw tg o1 s1 atp F FP pS pF pT pL op it isz wh dn wk me 0 ot) ?_ (0, tx) ⟨Nat.zero_le _, fun _ _ => rfl, fun j hj => absurd hj (Nat.not_lt_zero j)⟩
  rintro ⟨k, tx1⟩ ⟨hk, hI1, hI2⟩ ih
  dsimp only at hk hI1 hI2 ih ⊢
  refine aw_go 2 28 [some (.ref 0), some (.int (nI q)), some (.int (nI k))] [.int (nI q), .int (nI k)] (moH lf rt nx sz hg nu hd (nI n) nm le (nI ns) pl wa tx1 (nI L) ou (nI no) wd ws tw tg o1 s1 atp F FP pS pF pT pL op it isz wh dn wk me 0 ot) rfl ?_
  refine aw_cmp_ge rfl (fun h28 => ?_) (fun h28 => ?_)
  · have hke : k = q := (by have z := le_n (by omega) (by omega) h28; omega)
    refine aw_go 6 64 [some (.ref 0), some (.int (nI q)), some (.int (nI k))] [] (moH lf rt nx sz hg nu hd (nI n) nm le (nI ns) pl wa tx1 ((nI L) + (nI q)) ou (nI no) wd ws tw tg o1 s1 atp F FP pS pF pT pL op it isz wh dn wk me 0 ot) rfl ?_
    rw [nI_add]
    refine aw_go 2 66 [some (.ref 0), some (.int (nI q)), some (.int 0)] [] (moH lf rt nx sz hg nu hd (nI n) nm le (nI ns) pl wa tx1 (nI (L + q)) ou (nI no) wd ws tw tg o1 s1 atp F FP pS pF pT pL op it isz wh dn wk me 0 ot) rfl ?_
    -- LOOP 66: [some (.ref 0), some (.int (nI q)), some (.int 0)] [] (moH lf rt nx sz hg nu hd (nI n) nm le (nI ns) pl wa tx1 (nI (L + q)) ou (nI no) wd ws tw tg o1 s1 atp F FP pS pF pT pL op it isz wh dn wk me 0 ot)
    refine aw_loop (σ := Nat) (fun y => y ≤ 20) (fun y => 20 - y) (fun y => [some (.ref 0), some (.int (nI q)), some (.int (nI y))]) (fun _ => []) (fun y => moH lf rt nx sz hg nu hd (nI n) nm le (nI ns) pl (ar_fl y wa 0) tx1 (nI (L + q)) ou (nI no) wd ws tw tg o1 s1 atp F FP pS pF pT pL op it isz wh dn wk me 0 ot) ?_ 0 (Nat.zero_le _)
    intro m hm20 ih2
    refine aw_go 2 69 [some (.ref 0), some (.int (nI q)), some (.int (nI m))] [.int 20, .int (nI m)] (moH lf rt nx sz hg nu hd (nI n) nm le (nI ns) pl (ar_fl m wa 0) tx1 (nI (L + q)) ou (nI no) wd ws tw tg o1 s1 atp F FP pS pF pT pL op it isz wh dn wk me 0 ot) rfl ?_
    refine aw_cmp_ge rfl (fun h69 => ?_) (fun h69 => ?_)
    · refine aw_go 2 89 [some (.ref 0), some (.int (nI q)), some (.int (nI m))] [.int (nI (L + q))] (moH lf rt nx sz hg nu hd (nI n) nm le (nI ns) pl (ar_fl m wa 0) tx1 (nI (L + q)) ou (nI no) wd ws tw tg o1 s1 atp F FP pS pF pT pL op it isz wh dn wk me 0 ot) rfl ?_
      exact aw_iret rfl rfl rfl ⟨rfl, m_mk ⟨hx.1, hx.2.1, me_T hx.2.2.1 (fun k hk => (hx.2.2.2.1 k hk).1) hq hI1 (fun j hj => hI2 j (by omega)), fun k hk => ⟨by show 0 < 256; omega, if_pos (by have h9 : ¬ m < 20 := (fun z => nI_ge (b := 20) z (by omega) h69); omega)⟩, hx.2.2.2.2⟩⟩ rfl (Nat.le_refl _) (Nat.le_refl _) -- [.int (nI (L + q))] (moH lf rt nx sz hg nu hd (nI n) nm le (nI ns) pl (ar_fl m wa 0) tx1 (nI (L + q)) ou (nI no) wd ws tw tg o1 s1 atp F FP pS pF pT pL op it isz wh dn wk me 0 ot)
    · have hm2 : m < 20 := Nat.not_le.mp fun z => h69 (nI_le (a := 20) z (by omega))
      refine aw_go 4 78 [some (.ref 0), some (.int (nI q)), some (.int (nI m))] [.int 0, .int (nI m), .ref 11] (moH lf rt nx sz hg nu hd (nI n) nm le (nI ns) pl (ar_fl m wa 0) tx1 (nI (L + q)) ou (nI no) wd ws tw tg o1 s1 atp F FP pS pF pT pL op it isz wh dn wk me 0 ot) rfl ?_
      refine aw_iastN rfl rfl ⟨by omega, by omega⟩ ?_
      refine aw_go 2 66 [some (.ref 0), some (.int (nI q)), some (.int ((nI m) + 1))] [] (moH lf rt nx sz hg nu hd (nI n) nm le (nI ns) pl (upd (ar_fl m wa 0) m 0) tx1 (nI (L + q)) ou (nI no) wd ws tw tg o1 s1 atp F FP pS pF pT pL op it isz wh dn wk me 0 ot) rfl ?_
      -- LOOP 66: [some (.ref 0), some (.int (nI q)), some (.int ((nI m) + 1))] [] (moH lf rt nx sz hg nu hd (nI n) nm le (nI ns) pl (upd (ar_fl m wa 0) m 0) tx1 (nI (L + q)) ou (nI no) wd ws tw tg o1 s1 atp F FP pS pF pT pL op it isz wh dn wk me 0 ot)
      exact aw_eq (by simp only [nI_succ]) rfl (by rw [ar_fl_s]) (ih2 (m + 1) (by omega) (by omega))
  · have hk2 : k < q := Nat.not_le.mp fun z => h28 (nI_le z (by omega))
    refine aw_go 6 41 [some (.ref 0), some (.int (nI q)), some (.int (nI k))] [.int ((nI L) + (nI k)), .ref 12] (moH lf rt nx sz hg nu hd (nI n) nm le (nI ns) pl wa tx1 (nI L) ou (nI no) wd ws tw tg o1 s1 atp F FP pS pF pT pL op it isz wh dn wk me 0 ot) rfl ?_
    rw [nI_add]
    refine aw_go 3 46 [some (.ref 0), some (.int (nI q)), some (.int (nI k))] [.int (nI k), .ref 11, .int (nI (L + k)), .ref 12] (moH lf rt nx sz hg nu hd (nI n) nm le (nI ns) pl wa tx1 (nI L) ou (nI no) wd ws tw tg o1 s1 atp F FP pS pF pT pL op it isz wh dn wk me 0 ot) rfl ?_
    refine aw_ialdN rfl rfl ⟨by omega, by omega⟩ ?_
    refine aw_iastN rfl rfl ⟨by omega, by omega⟩ ?_
    refine aw_go 2 26 [some (.ref 0), some (.int (nI q)), some (.int ((nI k) + 1))] [] (moH lf rt nx sz hg nu hd (nI n) nm le (nI ns) pl wa (upd tx1 (L + k) (wa k)) (nI L) ou (nI no) wd ws tw tg o1 s1 atp F FP pS pF pT pL op it isz wh dn wk me 0 ot) rfl ?_
    -- LOOP 26: [some (.ref 0), some (.int (nI q)), some (.int ((nI k) + 1))] [] (moH lf rt nx sz hg nu hd (nI n) nm le (nI ns) pl wa (upd tx1 (L + k) (wa k)) (nI L) ou (nI no) wd ws tw tg o1 s1 atp F FP pS pF pT pL op it isz wh dn wk me 0 ot)
    exact aw_eq (by simp only [nI_succ]) rfl rfl (ih (k + 1, upd tx1 (L + k) (wa k)) ⟨by show k + 1 ≤ q; omega, fun j hj => by dsimp only; rw [pk_un (by omega)]; exact hI1 j hj, fun j hj => by dsimp only at hj ⊢; by_cases z : j = k; rw [z, pk_us]; exact (hx.2.2.2.1 k (by omega)).2; rw [pk_un (by omega)]; exact hI2 j (by omega)⟩ (by show q - (k + 1) < q - k; omega))
set_option maxHeartbeats 2000000 in
set_option maxRecDepth 100000 in
theorem c_Mo_fault_0 (l : Launch) (lf rt nx sz hg : Nat → Int32) (nu : Nat → Int64) (hd nm le pl wa tx ou wd : Nat → Int32) (ws : Int32) (tw : Nat → Int32) (tg : Int32) (o1 : Nat → Int32) (s1 atp : Int32) (pS pF pT pL : Nat → Int32) (op : Int32) (it : Nat → Int32) (isz wh dn : Int32) (wk me ot : Nat → Int32) (n ns no : Nat) (t : Nat → Tr) (T : Nat → Nat) (L : Nat) (w : Nat → Nat) (P : Nat → Tr) (F FP : Int32) (O : List Nat) (hx : m_in n ns t lf rt nx hg nu hd nm le pl wa tx ou no T L w P O) : Con l y_Mo_fault M_Mo_fault 0 0 [.ref 0, .int 0] (moH lf rt nx sz hg nu hd (nI n) nm le (nI ns) pl wa tx (nI L) ou (nI no) wd ws tw tg o1 s1 atp F FP pS pF pT pL op it isz wh dn wk me 0 ot) 25 0 0 0 (fun r h' => r = some (.int F) ∧ m_ok n ns T L w P F FP O h') := by
  refine Con.ent ok_Mo_fault (by decide +kernel) rfl ?_
  intro pA eA sA mA argsA belowA methA cA GA μA
  refine aw_go 1 1 [some (.ref 0), some (.int 0)] [.int 0] (moH lf rt nx sz hg nu hd (nI n) nm le (nI ns) pl wa tx (nI L) ou (nI no) wd ws tw tg o1 s1 atp F FP pS pF pT pL op it isz wh dn wk me 0 ot) rfl ?_
  refine aw_if_ne rfl (fun h1 => absurd h1 (by decide)) (fun h1 => ?_)
  refine aw_go 3 24 [some (.ref 0), some (.int 0)] [.int F] (moH lf rt nx sz hg nu hd (nI n) nm le (nI ns) pl wa tx (nI L) ou (nI no) wd ws tw tg o1 s1 atp F FP pS pF pT pL op it isz wh dn wk me 0 ot) rfl ?_
  exact aw_iret rfl rfl rfl ⟨rfl, m_mk hx⟩ rfl (Nat.le_refl _) (Nat.le_refl _) -- [.int F] (moH lf rt nx sz hg nu hd (nI n) nm le (nI ns) pl wa tx (nI L) ou (nI no) wd ws tw tg o1 s1 atp F FP pS pF pT pL op it isz wh dn wk me 0 ot)
set_option maxHeartbeats 2000000 in
set_option maxRecDepth 100000 in
theorem c_Mo_fault_1 (l : Launch) (lf rt nx sz hg : Nat → Int32) (nu : Nat → Int64) (hd nm le pl wa tx ou wd : Nat → Int32) (ws : Int32) (tw : Nat → Int32) (tg : Int32) (o1 : Nat → Int32) (s1 atp : Int32) (pS pF pT pL : Nat → Int32) (op : Int32) (it : Nat → Int32) (isz wh dn : Int32) (wk me ot : Nat → Int32) (n ns no : Nat) (t : Nat → Tr) (T : Nat → Nat) (L : Nat) (w : Nat → Nat) (P : Nat → Tr) (F FP : Int32) (O : List Nat) (hx : m_in n ns t lf rt nx hg nu hd nm le pl wa tx ou no T L w P O) : Con l y_Mo_fault M_Mo_fault 0 0 [.ref 0, .int 1] (moH lf rt nx sz hg nu hd (nI n) nm le (nI ns) pl wa tx (nI L) ou (nI no) wd ws tw tg o1 s1 atp F FP pS pF pT pL op it isz wh dn wk me 0 ot) 25 0 0 0 (fun r h' => r = some (.int FP) ∧ m_ok n ns T L w P F FP O h') := by
  refine Con.ent ok_Mo_fault (by decide +kernel) rfl ?_
  intro pA eA sA mA argsA belowA methA cA GA μA
  refine aw_go 1 1 [some (.ref 0), some (.int 1)] [.int 1] (moH lf rt nx sz hg nu hd (nI n) nm le (nI ns) pl wa tx (nI L) ou (nI no) wd ws tw tg o1 s1 atp F FP pS pF pT pL op it isz wh dn wk me 0 ot) rfl ?_
  refine aw_if_ne rfl (fun h1 => ?_) (fun h1 => absurd h1 (by decide))
  refine aw_go 2 13 [some (.ref 0), some (.int 1)] [.int 1, .int 1] (moH lf rt nx sz hg nu hd (nI n) nm le (nI ns) pl wa tx (nI L) ou (nI no) wd ws tw tg o1 s1 atp F FP pS pF pT pL op it isz wh dn wk me 0 ot) rfl ?_
  refine aw_cmp_ne rfl (fun h13 => absurd h13 (by decide)) (fun h13 => ?_)
  refine aw_go 3 24 [some (.ref 0), some (.int 1)] [.int FP] (moH lf rt nx sz hg nu hd (nI n) nm le (nI ns) pl wa tx (nI L) ou (nI no) wd ws tw tg o1 s1 atp F FP pS pF pT pL op it isz wh dn wk me 0 ot) rfl ?_
  exact aw_iret rfl rfl rfl ⟨rfl, m_mk hx⟩ rfl (Nat.le_refl _) (Nat.le_refl _) -- [.int FP] (moH lf rt nx sz hg nu hd (nI n) nm le (nI ns) pl wa tx (nI L) ou (nI no) wd ws tw tg o1 s1 atp F FP pS pF pT pL op it isz wh dn wk me 0 ot)
set_option maxHeartbeats 2000000 in
set_option maxRecDepth 100000 in
theorem c_Mo_fault_n (l : Launch) (lf rt nx sz hg : Nat → Int32) (nu : Nat → Int64) (hd nm le pl wa tx ou wd : Nat → Int32) (ws : Int32) (tw : Nat → Int32) (tg : Int32) (o1 : Nat → Int32) (s1 atp : Int32) (pS pF pT pL : Nat → Int32) (op : Int32) (it : Nat → Int32) (isz wh dn : Int32) (wk me ot : Nat → Int32) (n ns no : Nat) (t : Nat → Tr) (T : Nat → Nat) (L : Nat) (w : Nat → Nat) (P : Nat → Tr) (F FP : Int32) (O : List Nat) (hx : m_in n ns t lf rt nx hg nu hd nm le pl wa tx ou no T L w P O) (x : Int32) (h0 : x ≠ 0) (h1x : x ≠ 1) : Con l y_Mo_fault M_Mo_fault 0 0 [.ref 0, .int x] (moH lf rt nx sz hg nu hd (nI n) nm le (nI ns) pl wa tx (nI L) ou (nI no) wd ws tw tg o1 s1 atp F FP pS pF pT pL op it isz wh dn wk me 0 ot) 25 0 0 0 (fun r h' => r = some (.int (-1)) ∧ m_ok n ns T L w P F FP O h') := by
  refine Con.ent ok_Mo_fault (by decide +kernel) rfl ?_
  intro pA eA sA mA argsA belowA methA cA GA μA
  refine aw_go 1 1 [some (.ref 0), some (.int x)] [.int x] (moH lf rt nx sz hg nu hd (nI n) nm le (nI ns) pl wa tx (nI L) ou (nI no) wd ws tw tg o1 s1 atp F FP pS pF pT pL op it isz wh dn wk me 0 ot) rfl ?_
  refine aw_if_ne rfl (fun h1 => ?_) (fun h1 => absurd h1 h0)
  refine aw_go 2 13 [some (.ref 0), some (.int x)] [.int 1, .int x] (moH lf rt nx sz hg nu hd (nI n) nm le (nI ns) pl wa tx (nI L) ou (nI no) wd ws tw tg o1 s1 atp F FP pS pF pT pL op it isz wh dn wk me 0 ot) rfl ?_
  refine aw_cmp_ne rfl (fun h13 => ?_) (fun h13 => absurd h13 h1x)
  refine aw_go 1 24 [some (.ref 0), some (.int x)] [.int (-1)] (moH lf rt nx sz hg nu hd (nI n) nm le (nI ns) pl wa tx (nI L) ou (nI no) wd ws tw tg o1 s1 atp F FP pS pF pT pL op it isz wh dn wk me 0 ot) rfl ?_
  exact aw_iret rfl rfl rfl ⟨rfl, m_mk hx⟩ rfl (Nat.le_refl _) (Nat.le_refl _) -- [.int (-1)] (moH lf rt nx sz hg nu hd (nI n) nm le (nI ns) pl wa tx (nI L) ou (nI no) wd ws tw tg o1 s1 atp F FP pS pF pT pL op it isz wh dn wk me 0 ot)
set_option maxHeartbeats 2000000 in
set_option maxRecDepth 100000 in
theorem c_Mo_letter (l : Launch) (lf rt nx sz hg : Nat → Int32) (nu : Nat → Int64) (hd nm le pl wa tx ou wd : Nat → Int32) (ws : Int32) (tw : Nat → Int32) (tg : Int32) (o1 : Nat → Int32) (s1 atp : Int32) (pS pF pT pL : Nat → Int32) (op : Int32) (it : Nat → Int32) (isz wh dn : Int32) (wk me ot : Nat → Int32) (n ns no : Nat) (t : Nat → Tr) (T : Nat → Nat) (L : Nat) (w : Nat → Nat) (P : Nat → Tr) (F FP : Int32) (O : List Nat) (hx : m_in n ns t lf rt nx hg nu hd nm le pl wa tx ou no T L w P O) (x : Int32) : Con l y_Mo_letter M_Mo_letter 0 0 [.ref 0, .int x] (moH lf rt nx sz hg nu hd (nI n) nm le (nI ns) pl wa tx (nI L) ou (nI no) wd ws tw tg o1 s1 atp F FP pS pF pT pL op it isz wh dn wk me 0 ot) 25 0 0 0 (fun r h' => r = some (.int (ltI O x)) ∧ m_ok n ns T L w P F FP O h') := by
  refine Con.ent ok_Mo_letter (by decide +kernel) rfl ?_
  intro pA eA sA mA argsA belowA methA cA GA μA
  refine aw_go 1 1 [some (.ref 0), some (.int x)] [.int x] (moH lf rt nx sz hg nu hd (nI n) nm le (nI ns) pl wa tx (nI L) ou (nI no) wd ws tw tg o1 s1 atp F FP pS pF pT pL op it isz wh dn wk me 0 ot) rfl ?_
  refine aw_if_lt rfl (fun h1 => ?_) (fun h1 => ?_)
  · refine aw_go 1 22 [some (.ref 0), some (.int x)] [.int (-1)] (moH lf rt nx sz hg nu hd (nI n) nm le (nI ns) pl wa tx (nI L) ou (nI no) wd ws tw tg o1 s1 atp F FP pS pF pT pL op it isz wh dn wk me 0 ot) rfl ?_
    exact aw_iret rfl rfl rfl ⟨by rw [← ltI_eq hx.2.2.2.2.2, if_pos h1], m_mk hx⟩ rfl (Nat.le_refl _) (Nat.le_refl _) -- [.int (-1)] (moH lf rt nx sz hg nu hd (nI n) nm le (nI ns) pl wa tx (nI L) ou (nI no) wd ws tw tg o1 s1 atp F FP pS pF pT pL op it isz wh dn wk me 0 ot)
  · refine aw_go 3 9 [some (.ref 0), some (.int x)] [.int (nI no), .int x] (moH lf rt nx sz hg nu hd (nI n) nm le (nI ns) pl wa tx (nI L) ou (nI no) wd ws tw tg o1 s1 atp F FP pS pF pT pL op it isz wh dn wk me 0 ot) rfl ?_
    refine aw_cmp_ge rfl (fun h9 => ?_) (fun h9 => ?_)
    · refine aw_go 1 22 [some (.ref 0), some (.int x)] [.int (-1)] (moH lf rt nx sz hg nu hd (nI n) nm le (nI ns) pl wa tx (nI L) ou (nI no) wd ws tw tg o1 s1 atp F FP pS pF pT pL op it isz wh dn wk me 0 ot) rfl ?_
      exact aw_iret rfl rfl rfl ⟨by rw [← ltI_eq hx.2.2.2.2.2, if_neg h1, if_pos h9], m_mk hx⟩ rfl (Nat.le_refl _) (Nat.le_refl _) -- [.int (-1)] (moH lf rt nx sz hg nu hd (nI n) nm le (nI ns) pl wa tx (nI L) ou (nI no) wd ws tw tg o1 s1 atp F FP pS pF pT pL op it isz wh dn wk me 0 ot)
    · refine aw_go 3 17 [some (.ref 0), some (.int x)] [.int x, .ref 13] (moH lf rt nx sz hg nu hd (nI n) nm le (nI ns) pl wa tx (nI L) ou (nI no) wd ws tw tg o1 s1 atp F FP pS pF pT pL op it isz wh dn wk me 0 ot) rfl ?_
      refine aw_iald rfl rfl (by obtain ⟨j, hj, rfl, -⟩ := pk_mu h1 h9 (by have := hx.2.2.2.2.2.1; omega); exact vp_in_nI (by have := hx.2.2.2.2.2.1; omega) (by omega)) ?_
      refine aw_go 1 22 [some (.ref 0), some (.int x)] [.int (ou x.toNatClampNeg)] (moH lf rt nx sz hg nu hd (nI n) nm le (nI ns) pl wa tx (nI L) ou (nI no) wd ws tw tg o1 s1 atp F FP pS pF pT pL op it isz wh dn wk me 0 ot) rfl ?_
      exact aw_iret rfl rfl rfl ⟨by rw [← ltI_eq hx.2.2.2.2.2, if_neg h1, if_neg h9], m_mk hx⟩ rfl (Nat.le_refl _) (Nat.le_refl _) -- [.int (ou x.toNatClampNeg)] (moH lf rt nx sz hg nu hd (nI n) nm le (nI ns) pl wa tx (nI L) ou (nI no) wd ws tw tg o1 s1 atp F FP pS pF pT pL op it isz wh dn wk me 0 ot)
set_option maxHeartbeats 2000000 in
set_option maxRecDepth 100000 in
theorem c_Mo_tell_y (l : Launch) (lf rt nx sz hg : Nat → Int32) (nu : Nat → Int64) (hd nm le pl wa tx ou wd : Nat → Int32) (ws : Int32) (tw : Nat → Int32) (tg : Int32) (o1 : Nat → Int32) (s1 atp : Int32) (pS pF pT pL : Nat → Int32) (op : Int32) (it : Nat → Int32) (isz wh dn : Int32) (wk me ot : Nat → Int32) (n ns no : Nat) (t : Nat → Tr) (T : Nat → Nat) (L : Nat) (w : Nat → Nat) (P : Nat → Tr) (F FP : Int32) (O : List Nat) (hx : m_in n ns t lf rt nx hg nu hd nm le pl wa tx ou no T L w P O) (j : Nat) (hj : j < 8) : Con l y_Mo_tell M_Mo_tell 3 67 [.ref 0, .int (nI j)] (moH lf rt nx sz hg nu hd (nI n) nm le (nI ns) pl wa tx (nI L) ou (nI no) wd ws tw tg o1 s1 atp F FP pS pF pT pL op it isz wh dn wk me 0 ot) 25 0 0 0 (fun r h' => r = some (.int (nI (min (tlb (P j) false).length 2000))) ∧ m_ok n ns T L w P F FP (tlb (P j) false) h') := by
  refine Con.ent ok_Mo_tell (by decide +kernel) rfl ?_
  intro pA eA sA mA argsA belowA methA cA GA μA
  refine aw_go 1 1 [some (.ref 0), some (.int (nI j))] [.int (nI j)] (moH lf rt nx sz hg nu hd (nI n) nm le (nI ns) pl wa tx (nI L) ou (nI no) wd ws tw tg o1 s1 atp F FP pS pF pT pL op it isz wh dn wk me 0 ot) rfl ?_
  refine aw_cS [] (c_Mo_isP1 l j hj) rfl cw_Mo_236 rfl rfl rfl rfl (Nat.le_refl _) (Nat.le_refl _) (fun r h' hp => ?_)
  obtain ⟨rfl, rfl⟩ := hp
  refine aw_go 0 4 [some (.ref 0), some (.int (nI j))] [.int 1] (moH lf rt nx sz hg nu hd (nI n) nm le (nI ns) pl wa tx (nI L) ou (nI no) wd ws tw tg o1 s1 atp F FP pS pF pT pL op it isz wh dn wk me 0 ot) rfl ?_
  refine aw_if_ne rfl (fun h4 => ?_) (fun h4 => absurd h4 (by decide))
  refine aw_go 7 20 [some (.ref 0), some (.int (nI j))] [.int (nI j), .ref 10, .ref 0] (moH lf rt nx sz hg nu hd (nI n) nm le (nI ns) pl wa tx (nI L) ou 0 wd ws tw tg o1 s1 atp F FP pS pF pT pL op it isz wh dn wk me 0 ot) rfl ?_
  refine aw_ialdN rfl rfl ⟨by omega, by omega⟩ ?_
  obtain ⟨i, hi, hpl_i, ht_i⟩ := hx.2.2.2.2.1 j hj
  rw [hpl_i]
  refine aw_cV [0, 1, 2, 3, 4, 5, 6, 7, 8, 9, 10, 11, 12, 13, 14, 15, 16, 17, 18, 19, 20, 21, 22, 23, 24] (c_Mo_tellObject_o l lf rt nx sz hg nu hd nm le pl wa tx (nI L) ou wd ws tw tg o1 s1 atp F FP pS pF pT pL op it isz wh dn wk me ot n ns t hx.1 ⟨rfl, fun j hj => absurd hj (Nat.not_lt_zero j)⟩ i hi hx.2.1) rfl cw_Mo_233 rfl rfl rfl rfl rfl rfl (Nat.le_refl _) (Nat.le_refl _) (fun r h' hp => ?_)
  obtain ⟨rfl, k2, f2, tw2, tg2, hsh, rfl⟩ := hp
  rw [ht_i] at hsh
  refine aw_go 2 28 [some (.ref 0), some (.int (nI j))] [.int (nI k2)] (moH lf rt nx sz hg nu hd (nI n) nm le (nI ns) pl wa tx (nI L) f2 (nI k2) wd ws tw2 tg2 o1 s1 atp F FP pS pF pT pL op it isz wh dn wk me 0 ot) rfl ?_
  exact aw_iret rfl rfl rfl ⟨by rw [← hsh.1], m_mk ⟨hx.1, hx.2.1, hx.2.2.1, hx.2.2.2.1, hx.2.2.2.2.1, hsh⟩⟩ rfl (Nat.le_refl _) (Nat.le_refl _) -- [.int (nI k2)] (moH lf rt nx sz hg nu hd (nI n) nm le (nI ns) pl wa tx (nI L) f2 (nI k2) wd ws tw2 tg2 o1 s1 atp F FP pS pF pT pL op it isz wh dn wk me 0 ot)
set_option maxHeartbeats 2000000 in
set_option maxRecDepth 100000 in
theorem c_Mo_tell_n (l : Launch) (lf rt nx sz hg : Nat → Int32) (nu : Nat → Int64) (hd nm le pl wa tx ou wd : Nat → Int32) (ws : Int32) (tw : Nat → Int32) (tg : Int32) (o1 : Nat → Int32) (s1 atp : Int32) (pS pF pT pL : Nat → Int32) (op : Int32) (it : Nat → Int32) (isz wh dn : Int32) (wk me ot : Nat → Int32) (n ns no : Nat) (t : Nat → Tr) (T : Nat → Nat) (L : Nat) (w : Nat → Nat) (P : Nat → Tr) (F FP : Int32) (O : List Nat) (hx : m_in n ns t lf rt nx hg nu hd nm le pl wa tx ou no T L w P O) (p : Int32) (hp : ¬ isP p) : Con l y_Mo_tell M_Mo_tell 3 67 [.ref 0, .int p] (moH lf rt nx sz hg nu hd (nI n) nm le (nI ns) pl wa tx (nI L) ou (nI no) wd ws tw tg o1 s1 atp F FP pS pF pT pL op it isz wh dn wk me 0 ot) 25 0 0 0 (fun r h' => r = some (.int (-1)) ∧ m_ok n ns T L w P F FP O h') := by
  refine Con.ent ok_Mo_tell (by decide +kernel) rfl ?_
  intro pA eA sA mA argsA belowA methA cA GA μA
  refine aw_go 1 1 [some (.ref 0), some (.int p)] [.int p] (moH lf rt nx sz hg nu hd (nI n) nm le (nI ns) pl wa tx (nI L) ou (nI no) wd ws tw tg o1 s1 atp F FP pS pF pT pL op it isz wh dn wk me 0 ot) rfl ?_
  refine aw_cS [] (c_Mo_isP0 l p hp) rfl cw_Mo_236 rfl rfl rfl rfl (Nat.le_refl _) (Nat.le_refl _) (fun r h' hp => ?_)
  obtain ⟨rfl, rfl⟩ := hp
  refine aw_go 0 4 [some (.ref 0), some (.int p)] [.int 0] (moH lf rt nx sz hg nu hd (nI n) nm le (nI ns) pl wa tx (nI L) ou (nI no) wd ws tw tg o1 s1 atp F FP pS pF pT pL op it isz wh dn wk me 0 ot) rfl ?_
  refine aw_if_ne rfl (fun h4 => absurd h4 (by decide)) (fun h4 => ?_)
  refine aw_go 1 8 [some (.ref 0), some (.int p)] [.int (-1)] (moH lf rt nx sz hg nu hd (nI n) nm le (nI ns) pl wa tx (nI L) ou (nI no) wd ws tw tg o1 s1 atp F FP pS pF pT pL op it isz wh dn wk me 0 ot) rfl ?_
  exact aw_iret rfl rfl rfl ⟨rfl, m_mk hx⟩ rfl (Nat.le_refl _) (Nat.le_refl _) -- [.int (-1)] (moH lf rt nx sz hg nu hd (nI n) nm le (nI ns) pl wa tx (nI L) ou (nI no) wd ws tw tg o1 s1 atp F FP pS pF pT pL op it isz wh dn wk me 0 ot)
set_option maxHeartbeats 2000000 in
set_option maxRecDepth 100000 in
theorem c_Mo_num_n (l : Launch) (lf rt nx sz hg : Nat → Int32) (nu : Nat → Int64) (hd nm le pl wa tx ou wd : Nat → Int32) (ws : Int32) (tw : Nat → Int32) (tg : Int32) (o1 : Nat → Int32) (s1 atp : Int32) (pS pF pT pL : Nat → Int32) (op : Int32) (it : Nat → Int32) (isz wh dn : Int32) (wk me ot : Nat → Int32) (n ns no : Nat) (t : Nat → Tr) (T : Nat → Nat) (L : Nat) (w : Nat → Nat) (P : Nat → Tr) (F FP : Int32) (O : List Nat) (hx : m_in n ns t lf rt nx hg nu hd nm le pl wa tx ou no T L w P O) (p : Int32) (hp : ¬ isP p) : Con l y_Mo_number M_Mo_number 1 21 [.ref 0, .int p] (moH lf rt nx sz hg nu hd (nI n) nm le (nI ns) pl wa tx (nI L) ou (nI no) wd ws tw tg o1 s1 atp F FP pS pF pT pL op it isz wh dn wk me 0 ot) 25 0 0 0 (fun r h' => r = some (.long (-1)) ∧ m_ok n ns T L w P F FP O h') := by
  refine Con.ent ok_Mo_number (by decide +kernel) rfl ?_
  intro pA eA sA mA argsA belowA methA cA GA μA
  refine aw_go 1 1 [some (.ref 0), some (.int p)] [.int p] (moH lf rt nx sz hg nu hd (nI n) nm le (nI ns) pl wa tx (nI L) ou (nI no) wd ws tw tg o1 s1 atp F FP pS pF pT pL op it isz wh dn wk me 0 ot) rfl ?_
  refine aw_cS [] (c_Mo_isP0 l p hp) rfl cw_Mo_236 rfl rfl rfl rfl (Nat.le_refl _) (Nat.le_refl _) (fun r h' hp => ?_)
  obtain ⟨rfl, rfl⟩ := hp
  refine aw_go 0 4 [some (.ref 0), some (.int p)] [.int 0] (moH lf rt nx sz hg nu hd (nI n) nm le (nI ns) pl wa tx (nI L) ou (nI no) wd ws tw tg o1 s1 atp F FP pS pF pT pL op it isz wh dn wk me 0 ot) rfl ?_
  refine aw_if_eq rfl (fun h4 => ?_) (fun h4 => absurd h4 (by decide))
  refine aw_go 1 37 [some (.ref 0), some (.int p)] [.long (-1)] (moH lf rt nx sz hg nu hd (nI n) nm le (nI ns) pl wa tx (nI L) ou (nI no) wd ws tw tg o1 s1 atp F FP pS pF pT pL op it isz wh dn wk me 0 ot) rfl ?_
  exact aw_lret rfl rfl ⟨rfl, m_mk hx⟩ rfl (Nat.le_refl _) (Nat.le_refl _) -- [.long (-1)] (moH lf rt nx sz hg nu hd (nI n) nm le (nI ns) pl wa tx (nI L) ou (nI no) wd ws tw tg o1 s1 atp F FP pS pF pT pL op it isz wh dn wk me 0 ot)
set_option maxHeartbeats 2000000 in
set_option maxRecDepth 100000 in
theorem c_Mo_num_y (l : Launch) (lf rt nx sz hg : Nat → Int32) (nu : Nat → Int64) (hd nm le pl wa tx ou wd : Nat → Int32) (ws : Int32) (tw : Nat → Int32) (tg : Int32) (o1 : Nat → Int32) (s1 atp : Int32) (pS pF pT pL : Nat → Int32) (op : Int32) (it : Nat → Int32) (isz wh dn : Int32) (wk me ot : Nat → Int32) (n ns no : Nat) (t : Nat → Tr) (T : Nat → Nat) (L : Nat) (w : Nat → Nat) (P : Nat → Tr) (F FP : Int32) (O : List Nat) (hx : m_in n ns t lf rt nx hg nu hd nm le pl wa tx ou no T L w P O) (j : Nat) (hj : j < 8) (c : Nat) (hc : P j = .var c) (hk : c % 2 = 0) : Con l y_Mo_number M_Mo_number 1 21 [.ref 0, .int (nI j)] (moH lf rt nx sz hg nu hd (nI n) nm le (nI ns) pl wa tx (nI L) ou (nI no) wd ws tw tg o1 s1 atp F FP pS pF pT pL op it isz wh dn wk me 0 ot) 25 0 0 0 (fun r h' => r = some (.long (lN (c / 2))) ∧ m_ok n ns T L w P F FP O h') := by
  have h16n := hx.1.n16
  refine Con.ent ok_Mo_number (by decide +kernel) rfl ?_
  intro pA eA sA mA argsA belowA methA cA GA μA
  refine aw_go 1 1 [some (.ref 0), some (.int (nI j))] [.int (nI j)] (moH lf rt nx sz hg nu hd (nI n) nm le (nI ns) pl wa tx (nI L) ou (nI no) wd ws tw tg o1 s1 atp F FP pS pF pT pL op it isz wh dn wk me 0 ot) rfl ?_
  refine aw_cS [] (c_Mo_isP1 l j hj) rfl cw_Mo_236 rfl rfl rfl rfl (Nat.le_refl _) (Nat.le_refl _) (fun r h' hp => ?_)
  obtain ⟨rfl, rfl⟩ := hp
  refine aw_go 0 4 [some (.ref 0), some (.int (nI j))] [.int 1] (moH lf rt nx sz hg nu hd (nI n) nm le (nI ns) pl wa tx (nI L) ou (nI no) wd ws tw tg o1 s1 atp F FP pS pF pT pL op it isz wh dn wk me 0 ot) rfl ?_
  refine aw_if_eq rfl (fun h4 => absurd h4 (by decide)) (fun h4 => ?_)
  refine aw_go 4 13 [some (.ref 0), some (.int (nI j))] [.int (nI j), .ref 10, .ref 0] (moH lf rt nx sz hg nu hd (nI n) nm le (nI ns) pl wa tx (nI L) ou (nI no) wd ws tw tg o1 s1 atp F FP pS pF pT pL op it isz wh dn wk me 0 ot) rfl ?_
  refine aw_ialdN rfl rfl ⟨by omega, by omega⟩ ?_
  obtain ⟨i, hi, hpl_i, ht_i⟩ := hx.2.2.2.2.1 j hj
  rw [hpl_i]
  obtain ⟨hlf, v, hv, hnu, hcv⟩ := nat_k (hx.1.at hi (by rw [ht_i]; exact hc)) hk
  refine aw_cV [0, 1, 2, 3, 4, 5, 6, 7, 8, 9, 10, 11, 12, 13, 14, 15, 16, 17, 18, 19, 20, 21, 22, 23, 24] (c_Mo_isNatural_1 l lf rt nx sz hg nu hd (nI n) nm le (nI ns) pl wa tx (nI L) ou (nI no) wd ws tw tg o1 s1 atp F FP pS pF pT pL op it isz wh dn wk me 0 ot i (by omega) hlf) rfl cw_Mo_242 rfl rfl rfl rfl rfl rfl (Nat.le_refl _) (Nat.le_refl _) (fun r h' hp => ?_)
  obtain ⟨rfl, rfl⟩ := hp
  refine aw_go 0 17 [some (.ref 0), some (.int (nI j))] [.int 1] (moH lf rt nx sz hg nu hd (nI n) nm le (nI ns) pl wa tx (nI L) ou (nI no) wd ws tw tg o1 s1 atp F FP pS pF pT pL op it isz wh dn wk me 0 ot) rfl ?_
  refine aw_if_eq rfl (fun h17 => absurd h17 (by decide)) (fun h17 => ?_)
  refine aw_go 5 29 [some (.ref 0), some (.int (nI j))] [.int (nI j), .ref 10, .ref 6] (moH lf rt nx sz hg nu hd (nI n) nm le (nI ns) pl wa tx (nI L) ou (nI no) wd ws tw tg o1 s1 atp F FP pS pF pT pL op it isz wh dn wk me 0 ot) rfl ?_
  refine aw_ialdN rfl rfl ⟨by omega, by omega⟩ ?_
  rw [hpl_i]
  refine aw_laldN rfl rfl ⟨by omega, by omega⟩ ?_
  refine aw_go 1 37 [some (.ref 0), some (.int (nI j))] [.long (nu i)] (moH lf rt nx sz hg nu hd (nI n) nm le (nI ns) pl wa tx (nI L) ou (nI no) wd ws tw tg o1 s1 atp F FP pS pF pT pL op it isz wh dn wk me 0 ot) rfl ?_
  exact aw_lret rfl rfl ⟨by rw [hnu, hcv, show 2 * v / 2 = v by omega], m_mk hx⟩ rfl (Nat.le_refl _) (Nat.le_refl _) -- [.long (nu i)] (moH lf rt nx sz hg nu hd (nI n) nm le (nI ns) pl wa tx (nI L) ou (nI no) wd ws tw tg o1 s1 atp F FP pS pF pT pL op it isz wh dn wk me 0 ot)
set_option maxHeartbeats 2000000 in
set_option maxRecDepth 100000 in
theorem c_Mo_num_s (l : Launch) (lf rt nx sz hg : Nat → Int32) (nu : Nat → Int64) (hd nm le pl wa tx ou wd : Nat → Int32) (ws : Int32) (tw : Nat → Int32) (tg : Int32) (o1 : Nat → Int32) (s1 atp : Int32) (pS pF pT pL : Nat → Int32) (op : Int32) (it : Nat → Int32) (isz wh dn : Int32) (wk me ot : Nat → Int32) (n ns no : Nat) (t : Nat → Tr) (T : Nat → Nat) (L : Nat) (w : Nat → Nat) (P : Nat → Tr) (F FP : Int32) (O : List Nat) (hx : m_in n ns t lf rt nx hg nu hd nm le pl wa tx ou no T L w P O) (j : Nat) (hj : j < 8) (c : Nat) (hc : P j = .var c) (hk : c % 2 = 1) : Con l y_Mo_number M_Mo_number 1 21 [.ref 0, .int (nI j)] (moH lf rt nx sz hg nu hd (nI n) nm le (nI ns) pl wa tx (nI L) ou (nI no) wd ws tw tg o1 s1 atp F FP pS pF pT pL op it isz wh dn wk me 0 ot) 25 0 0 0 (fun r h' => r = some (.long (-1)) ∧ m_ok n ns T L w P F FP O h') := by
  have h16n := hx.1.n16
  refine Con.ent ok_Mo_number (by decide +kernel) rfl ?_
  intro pA eA sA mA argsA belowA methA cA GA μA
  refine aw_go 1 1 [some (.ref 0), some (.int (nI j))] [.int (nI j)] (moH lf rt nx sz hg nu hd (nI n) nm le (nI ns) pl wa tx (nI L) ou (nI no) wd ws tw tg o1 s1 atp F FP pS pF pT pL op it isz wh dn wk me 0 ot) rfl ?_
  refine aw_cS [] (c_Mo_isP1 l j hj) rfl cw_Mo_236 rfl rfl rfl rfl (Nat.le_refl _) (Nat.le_refl _) (fun r h' hp => ?_)
  obtain ⟨rfl, rfl⟩ := hp
  refine aw_go 0 4 [some (.ref 0), some (.int (nI j))] [.int 1] (moH lf rt nx sz hg nu hd (nI n) nm le (nI ns) pl wa tx (nI L) ou (nI no) wd ws tw tg o1 s1 atp F FP pS pF pT pL op it isz wh dn wk me 0 ot) rfl ?_
  refine aw_if_eq rfl (fun h4 => absurd h4 (by decide)) (fun h4 => ?_)
  refine aw_go 4 13 [some (.ref 0), some (.int (nI j))] [.int (nI j), .ref 10, .ref 0] (moH lf rt nx sz hg nu hd (nI n) nm le (nI ns) pl wa tx (nI L) ou (nI no) wd ws tw tg o1 s1 atp F FP pS pF pT pL op it isz wh dn wk me 0 ot) rfl ?_
  refine aw_ialdN rfl rfl ⟨by omega, by omega⟩ ?_
  obtain ⟨i, hi, hpl_i, ht_i⟩ := hx.2.2.2.2.1 j hj
  rw [hpl_i]
  have hlf := sym_k (hx.1.at hi (by rw [ht_i]; exact hc)) hk
  refine aw_cV [0, 1, 2, 3, 4, 5, 6, 7, 8, 9, 10, 11, 12, 13, 14, 15, 16, 17, 18, 19, 20, 21, 22, 23, 24] (c_Mo_isNatural_2 l lf rt nx sz hg nu hd (nI n) nm le (nI ns) pl wa tx (nI L) ou (nI no) wd ws tw tg o1 s1 atp F FP pS pF pT pL op it isz wh dn wk me 0 ot i (by omega) hlf) rfl cw_Mo_242 rfl rfl rfl rfl rfl rfl (Nat.le_refl _) (Nat.le_refl _) (fun r h' hp => ?_)
  obtain ⟨rfl, rfl⟩ := hp
  refine aw_go 0 17 [some (.ref 0), some (.int (nI j))] [.int 0] (moH lf rt nx sz hg nu hd (nI n) nm le (nI ns) pl wa tx (nI L) ou (nI no) wd ws tw tg o1 s1 atp F FP pS pF pT pL op it isz wh dn wk me 0 ot) rfl ?_
  refine aw_if_eq rfl (fun h17 => ?_) (fun h17 => absurd h17 (by decide))
  refine aw_go 1 37 [some (.ref 0), some (.int (nI j))] [.long (-1)] (moH lf rt nx sz hg nu hd (nI n) nm le (nI ns) pl wa tx (nI L) ou (nI no) wd ws tw tg o1 s1 atp F FP pS pF pT pL op it isz wh dn wk me 0 ot) rfl ?_
  exact aw_lret rfl rfl ⟨rfl, m_mk hx⟩ rfl (Nat.le_refl _) (Nat.le_refl _) -- [.long (-1)] (moH lf rt nx sz hg nu hd (nI n) nm le (nI ns) pl wa tx (nI L) ou (nI no) wd ws tw tg o1 s1 atp F FP pS pF pT pL op it isz wh dn wk me 0 ot)
set_option maxHeartbeats 2000000 in
set_option maxRecDepth 100000 in
theorem c_Mo_num_p (l : Launch) (lf rt nx sz hg : Nat → Int32) (nu : Nat → Int64) (hd nm le pl wa tx ou wd : Nat → Int32) (ws : Int32) (tw : Nat → Int32) (tg : Int32) (o1 : Nat → Int32) (s1 atp : Int32) (pS pF pT pL : Nat → Int32) (op : Int32) (it : Nat → Int32) (isz wh dn : Int32) (wk me ot : Nat → Int32) (n ns no : Nat) (t : Nat → Tr) (T : Nat → Nat) (L : Nat) (w : Nat → Nat) (P : Nat → Tr) (F FP : Int32) (O : List Nat) (hx : m_in n ns t lf rt nx hg nu hd nm le pl wa tx ou no T L w P O) (j : Nat) (hj : j < 8) (A B : Tr) (hc : P j = .op A B) : Con l y_Mo_number M_Mo_number 1 21 [.ref 0, .int (nI j)] (moH lf rt nx sz hg nu hd (nI n) nm le (nI ns) pl wa tx (nI L) ou (nI no) wd ws tw tg o1 s1 atp F FP pS pF pT pL op it isz wh dn wk me 0 ot) 25 0 0 0 (fun r h' => r = some (.long (-1)) ∧ m_ok n ns T L w P F FP O h') := by
  have h16n := hx.1.n16
  refine Con.ent ok_Mo_number (by decide +kernel) rfl ?_
  intro pA eA sA mA argsA belowA methA cA GA μA
  refine aw_go 1 1 [some (.ref 0), some (.int (nI j))] [.int (nI j)] (moH lf rt nx sz hg nu hd (nI n) nm le (nI ns) pl wa tx (nI L) ou (nI no) wd ws tw tg o1 s1 atp F FP pS pF pT pL op it isz wh dn wk me 0 ot) rfl ?_
  refine aw_cS [] (c_Mo_isP1 l j hj) rfl cw_Mo_236 rfl rfl rfl rfl (Nat.le_refl _) (Nat.le_refl _) (fun r h' hp => ?_)
  obtain ⟨rfl, rfl⟩ := hp
  refine aw_go 0 4 [some (.ref 0), some (.int (nI j))] [.int 1] (moH lf rt nx sz hg nu hd (nI n) nm le (nI ns) pl wa tx (nI L) ou (nI no) wd ws tw tg o1 s1 atp F FP pS pF pT pL op it isz wh dn wk me 0 ot) rfl ?_
  refine aw_if_eq rfl (fun h4 => absurd h4 (by decide)) (fun h4 => ?_)
  refine aw_go 4 13 [some (.ref 0), some (.int (nI j))] [.int (nI j), .ref 10, .ref 0] (moH lf rt nx sz hg nu hd (nI n) nm le (nI ns) pl wa tx (nI L) ou (nI no) wd ws tw tg o1 s1 atp F FP pS pF pT pL op it isz wh dn wk me 0 ot) rfl ?_
  refine aw_ialdN rfl rfl ⟨by omega, by omega⟩ ?_
  obtain ⟨i, hi, hpl_i, ht_i⟩ := hx.2.2.2.2.1 j hj
  rw [hpl_i]
  obtain ⟨a, b, ha, hb, hlf, hrt, hta, htb⟩ := hx.1.pr hi (by rw [ht_i]; exact hc)
  refine aw_cV [0, 1, 2, 3, 4, 5, 6, 7, 8, 9, 10, 11, 12, 13, 14, 15, 16, 17, 18, 19, 20, 21, 22, 23, 24] (c_Mo_isNatural_p l lf rt nx sz hg nu hd (nI n) nm le (nI ns) pl wa tx (nI L) ou (nI no) wd ws tw tg o1 s1 atp F FP pS pF pT pL op it isz wh dn wk me 0 ot i a (by omega) (by omega) hlf) rfl cw_Mo_242 rfl rfl rfl rfl rfl rfl (Nat.le_refl _) (Nat.le_refl _) (fun r h' hp => ?_)
  obtain ⟨rfl, rfl⟩ := hp
  refine aw_go 0 17 [some (.ref 0), some (.int (nI j))] [.int 0] (moH lf rt nx sz hg nu hd (nI n) nm le (nI ns) pl wa tx (nI L) ou (nI no) wd ws tw tg o1 s1 atp F FP pS pF pT pL op it isz wh dn wk me 0 ot) rfl ?_
  refine aw_if_eq rfl (fun h17 => ?_) (fun h17 => absurd h17 (by decide))
  refine aw_go 1 37 [some (.ref 0), some (.int (nI j))] [.long (-1)] (moH lf rt nx sz hg nu hd (nI n) nm le (nI ns) pl wa tx (nI L) ou (nI no) wd ws tw tg o1 s1 atp F FP pS pF pT pL op it isz wh dn wk me 0 ot) rfl ?_
  exact aw_lret rfl rfl ⟨rfl, m_mk hx⟩ rfl (Nat.le_refl _) (Nat.le_refl _) -- [.long (-1)] (moH lf rt nx sz hg nu hd (nI n) nm le (nI ns) pl wa tx (nI L) ou (nI no) wd ws tw tg o1 s1 atp F FP pS pF pT pL op it isz wh dn wk me 0 ot)
set_option maxHeartbeats 2000000 in
set_option maxRecDepth 100000 in
theorem c_Mo_about_0n (l : Launch) (lf rt nx sz hg : Nat → Int32) (nu : Nat → Int64) (hd nm le pl wa tx ou wd : Nat → Int32) (ws : Int32) (tw : Nat → Int32) (tg : Int32) (o1 : Nat → Int32) (s1 atp : Int32) (pS pF pT pL : Nat → Int32) (op : Int32) (it : Nat → Int32) (isz wh dn : Int32) (wk me ot : Nat → Int32) (n ns no : Nat) (t : Nat → Tr) (T : Nat → Nat) (L : Nat) (w : Nat → Nat) (P : Nat → Tr) (F FP : Int32) (O : List Nat) (hx : m_in n ns t lf rt nx hg nu hd nm le pl wa tx ou no T L w P O) (j : Nat) (hj : j < 8) (c : Nat) (hc : P j = .var c) (hk : c % 2 = 0) : Con l y_Mo_about M_Mo_about 2 46 [.ref 0, .int (nI j), .int 0] (moH lf rt nx sz hg nu hd (nI n) nm le (nI ns) pl wa tx (nI L) ou (nI no) wd ws tw tg o1 s1 atp F FP pS pF pT pL op it isz wh dn wk me 0 ot) 25 0 0 0 (fun r h' => r = some (.int 0) ∧ m_ok n ns T L w P F FP O h') := by
  have h16n := hx.1.n16
  refine Con.ent ok_Mo_about (by decide +kernel) rfl ?_
  intro pA eA sA mA argsA belowA methA cA GA μA
  refine aw_go 1 1 [some (.ref 0), some (.int (nI j)), some (.int 0), none] [.int (nI j)] (moH lf rt nx sz hg nu hd (nI n) nm le (nI ns) pl wa tx (nI L) ou (nI no) wd ws tw tg o1 s1 atp F FP pS pF pT pL op it isz wh dn wk me 0 ot) rfl ?_
  refine aw_cS [] (c_Mo_isP1 l j hj) rfl cw_Mo_236 rfl rfl rfl rfl (Nat.le_refl _) (Nat.le_refl _) (fun r h' hp => ?_)
  obtain ⟨rfl, rfl⟩ := hp
  refine aw_go 0 4 [some (.ref 0), some (.int (nI j)), some (.int 0), none] [.int 1] (moH lf rt nx sz hg nu hd (nI n) nm le (nI ns) pl wa tx (nI L) ou (nI no) wd ws tw tg o1 s1 atp F FP pS pF pT pL op it isz wh dn wk me 0 ot) rfl ?_
  refine aw_if_ne rfl (fun h4 => ?_) (fun h4 => absurd h4 (by decide))
  refine aw_go 3 14 [some (.ref 0), some (.int (nI j)), some (.int 0), none] [.int (nI j), .ref 10] (moH lf rt nx sz hg nu hd (nI n) nm le (nI ns) pl wa tx (nI L) ou (nI no) wd ws tw tg o1 s1 atp F FP pS pF pT pL op it isz wh dn wk me 0 ot) rfl ?_
  refine aw_ialdN rfl rfl ⟨by omega, by omega⟩ ?_
  obtain ⟨i, hi, hpl_i, ht_i⟩ := hx.2.2.2.2.1 j hj
  rw [hpl_i]
  obtain ⟨hlf, v, hv, hnu, hcv⟩ := nat_k (hx.1.at hi (by rw [ht_i]; exact hc)) hk
  refine aw_go 2 17 [some (.ref 0), some (.int (nI j)), some (.int 0), some (.int (nI i))] [.int 0] (moH lf rt nx sz hg nu hd (nI n) nm le (nI ns) pl wa tx (nI L) ou (nI no) wd ws tw tg o1 s1 atp F FP pS pF pT pL op it isz wh dn wk me 0 ot) rfl ?_
  refine aw_tabK 0 35 52 rfl rfl (by decide) ?_
  refine aw_go 2 54 [some (.ref 0), some (.int (nI j)), some (.int 0), some (.int (nI i))] [.int (nI i), .ref 0] (moH lf rt nx sz hg nu hd (nI n) nm le (nI ns) pl wa tx (nI L) ou (nI no) wd ws tw tg o1 s1 atp F FP pS pF pT pL op it isz wh dn wk me 0 ot) rfl ?_
  refine aw_cV [0, 1, 2, 3, 4, 5, 6, 7, 8, 9, 10, 11, 12, 13, 14, 15, 16, 17, 18, 19, 20, 21, 22, 23, 24] (c_Mo_isNatural_1 l lf rt nx sz hg nu hd (nI n) nm le (nI ns) pl wa tx (nI L) ou (nI no) wd ws tw tg o1 s1 atp F FP pS pF pT pL op it isz wh dn wk me 0 ot i (by omega) hlf) rfl cw_Mo_242 rfl rfl rfl rfl rfl rfl (Nat.le_refl _) (Nat.le_refl _) (fun r h' hp => ?_)
  obtain ⟨rfl, rfl⟩ := hp
  refine aw_go 0 57 [some (.ref 0), some (.int (nI j)), some (.int 0), some (.int (nI i))] [.int 1] (moH lf rt nx sz hg nu hd (nI n) nm le (nI ns) pl wa tx (nI L) ou (nI no) wd ws tw tg o1 s1 atp F FP pS pF pT pL op it isz wh dn wk me 0 ot) rfl ?_
  refine aw_if_eq rfl (fun h57 => absurd h57 (by decide)) (fun h57 => ?_)
  refine aw_go 2 77 [some (.ref 0), some (.int (nI j)), some (.int 0), some (.int (nI i))] [.int 0] (moH lf rt nx sz hg nu hd (nI n) nm le (nI ns) pl wa tx (nI L) ou (nI no) wd ws tw tg o1 s1 atp F FP pS pF pT pL op it isz wh dn wk me 0 ot) rfl ?_
  exact aw_iret rfl rfl rfl ⟨rfl, m_mk hx⟩ rfl (Nat.le_refl _) (Nat.le_refl _) -- [.int 0] (moH lf rt nx sz hg nu hd (nI n) nm le (nI ns) pl wa tx (nI L) ou (nI no) wd ws tw tg o1 s1 atp F FP pS pF pT pL op it isz wh dn wk me 0 ot)
set_option maxHeartbeats 2000000 in
set_option maxRecDepth 100000 in
theorem c_Mo_about_0s (l : Launch) (lf rt nx sz hg : Nat → Int32) (nu : Nat → Int64) (hd nm le pl wa tx ou wd : Nat → Int32) (ws : Int32) (tw : Nat → Int32) (tg : Int32) (o1 : Nat → Int32) (s1 atp : Int32) (pS pF pT pL : Nat → Int32) (op : Int32) (it : Nat → Int32) (isz wh dn : Int32) (wk me ot : Nat → Int32) (n ns no : Nat) (t : Nat → Tr) (T : Nat → Nat) (L : Nat) (w : Nat → Nat) (P : Nat → Tr) (F FP : Int32) (O : List Nat) (hx : m_in n ns t lf rt nx hg nu hd nm le pl wa tx ou no T L w P O) (j : Nat) (hj : j < 8) (c : Nat) (hc : P j = .var c) (hk : c % 2 = 1) : Con l y_Mo_about M_Mo_about 2 46 [.ref 0, .int (nI j), .int 0] (moH lf rt nx sz hg nu hd (nI n) nm le (nI ns) pl wa tx (nI L) ou (nI no) wd ws tw tg o1 s1 atp F FP pS pF pT pL op it isz wh dn wk me 0 ot) 25 0 0 0 (fun r h' => r = some (.int 1) ∧ m_ok n ns T L w P F FP O h') := by
  have h16n := hx.1.n16
  refine Con.ent ok_Mo_about (by decide +kernel) rfl ?_
  intro pA eA sA mA argsA belowA methA cA GA μA
  refine aw_go 1 1 [some (.ref 0), some (.int (nI j)), some (.int 0), none] [.int (nI j)] (moH lf rt nx sz hg nu hd (nI n) nm le (nI ns) pl wa tx (nI L) ou (nI no) wd ws tw tg o1 s1 atp F FP pS pF pT pL op it isz wh dn wk me 0 ot) rfl ?_
  refine aw_cS [] (c_Mo_isP1 l j hj) rfl cw_Mo_236 rfl rfl rfl rfl (Nat.le_refl _) (Nat.le_refl _) (fun r h' hp => ?_)
  obtain ⟨rfl, rfl⟩ := hp
  refine aw_go 0 4 [some (.ref 0), some (.int (nI j)), some (.int 0), none] [.int 1] (moH lf rt nx sz hg nu hd (nI n) nm le (nI ns) pl wa tx (nI L) ou (nI no) wd ws tw tg o1 s1 atp F FP pS pF pT pL op it isz wh dn wk me 0 ot) rfl ?_
  refine aw_if_ne rfl (fun h4 => ?_) (fun h4 => absurd h4 (by decide))
  refine aw_go 3 14 [some (.ref 0), some (.int (nI j)), some (.int 0), none] [.int (nI j), .ref 10] (moH lf rt nx sz hg nu hd (nI n) nm le (nI ns) pl wa tx (nI L) ou (nI no) wd ws tw tg o1 s1 atp F FP pS pF pT pL op it isz wh dn wk me 0 ot) rfl ?_
  refine aw_ialdN rfl rfl ⟨by omega, by omega⟩ ?_
  obtain ⟨i, hi, hpl_i, ht_i⟩ := hx.2.2.2.2.1 j hj
  rw [hpl_i]
  have hlf := sym_k (hx.1.at hi (by rw [ht_i]; exact hc)) hk
  refine aw_go 2 17 [some (.ref 0), some (.int (nI j)), some (.int 0), some (.int (nI i))] [.int 0] (moH lf rt nx sz hg nu hd (nI n) nm le (nI ns) pl wa tx (nI L) ou (nI no) wd ws tw tg o1 s1 atp F FP pS pF pT pL op it isz wh dn wk me 0 ot) rfl ?_
  refine aw_tabK 0 35 52 rfl rfl (by decide) ?_
  refine aw_go 2 54 [some (.ref 0), some (.int (nI j)), some (.int 0), some (.int (nI i))] [.int (nI i), .ref 0] (moH lf rt nx sz hg nu hd (nI n) nm le (nI ns) pl wa tx (nI L) ou (nI no) wd ws tw tg o1 s1 atp F FP pS pF pT pL op it isz wh dn wk me 0 ot) rfl ?_
  refine aw_cV [0, 1, 2, 3, 4, 5, 6, 7, 8, 9, 10, 11, 12, 13, 14, 15, 16, 17, 18, 19, 20, 21, 22, 23, 24] (c_Mo_isNatural_2 l lf rt nx sz hg nu hd (nI n) nm le (nI ns) pl wa tx (nI L) ou (nI no) wd ws tw tg o1 s1 atp F FP pS pF pT pL op it isz wh dn wk me 0 ot i (by omega) hlf) rfl cw_Mo_242 rfl rfl rfl rfl rfl rfl (Nat.le_refl _) (Nat.le_refl _) (fun r h' hp => ?_)
  obtain ⟨rfl, rfl⟩ := hp
  refine aw_go 0 57 [some (.ref 0), some (.int (nI j)), some (.int 0), some (.int (nI i))] [.int 0] (moH lf rt nx sz hg nu hd (nI n) nm le (nI ns) pl wa tx (nI L) ou (nI no) wd ws tw tg o1 s1 atp F FP pS pF pT pL op it isz wh dn wk me 0 ot) rfl ?_
  refine aw_if_eq rfl (fun h57 => ?_) (fun h57 => absurd h57 (by decide))
  refine aw_go 2 66 [some (.ref 0), some (.int (nI j)), some (.int 0), some (.int (nI i))] [.int (nI i), .ref 0] (moH lf rt nx sz hg nu hd (nI n) nm le (nI ns) pl wa tx (nI L) ou (nI no) wd ws tw tg o1 s1 atp F FP pS pF pT pL op it isz wh dn wk me 0 ot) rfl ?_
  refine aw_cV [0, 1, 2, 3, 4, 5, 6, 7, 8, 9, 10, 11, 12, 13, 14, 15, 16, 17, 18, 19, 20, 21, 22, 23, 24] (c_Mo_isSymbol_2 l lf rt nx sz hg nu hd (nI n) nm le (nI ns) pl wa tx (nI L) ou (nI no) wd ws tw tg o1 s1 atp F FP pS pF pT pL op it isz wh dn wk me 0 ot i (by omega) hlf) rfl cw_Mo_209 rfl rfl rfl rfl rfl rfl (Nat.le_refl _) (Nat.le_refl _) (fun r h' hp => ?_)
  obtain ⟨rfl, rfl⟩ := hp
  refine aw_go 0 69 [some (.ref 0), some (.int (nI j)), some (.int 0), some (.int (nI i))] [.int 1] (moH lf rt nx sz hg nu hd (nI n) nm le (nI ns) pl wa tx (nI L) ou (nI no) wd ws tw tg o1 s1 atp F FP pS pF pT pL op it isz wh dn wk me 0 ot) rfl ?_
  refine aw_if_eq rfl (fun h69 => absurd h69 (by decide)) (fun h69 => ?_)
  refine aw_go 2 77 [some (.ref 0), some (.int (nI j)), some (.int 0), some (.int (nI i))] [.int 1] (moH lf rt nx sz hg nu hd (nI n) nm le (nI ns) pl wa tx (nI L) ou (nI no) wd ws tw tg o1 s1 atp F FP pS pF pT pL op it isz wh dn wk me 0 ot) rfl ?_
  exact aw_iret rfl rfl rfl ⟨rfl, m_mk hx⟩ rfl (Nat.le_refl _) (Nat.le_refl _) -- [.int 1] (moH lf rt nx sz hg nu hd (nI n) nm le (nI ns) pl wa tx (nI L) ou (nI no) wd ws tw tg o1 s1 atp F FP pS pF pT pL op it isz wh dn wk me 0 ot)
set_option maxHeartbeats 2000000 in
set_option maxRecDepth 100000 in
theorem c_Mo_about_0p (l : Launch) (lf rt nx sz hg : Nat → Int32) (nu : Nat → Int64) (hd nm le pl wa tx ou wd : Nat → Int32) (ws : Int32) (tw : Nat → Int32) (tg : Int32) (o1 : Nat → Int32) (s1 atp : Int32) (pS pF pT pL : Nat → Int32) (op : Int32) (it : Nat → Int32) (isz wh dn : Int32) (wk me ot : Nat → Int32) (n ns no : Nat) (t : Nat → Tr) (T : Nat → Nat) (L : Nat) (w : Nat → Nat) (P : Nat → Tr) (F FP : Int32) (O : List Nat) (hx : m_in n ns t lf rt nx hg nu hd nm le pl wa tx ou no T L w P O) (j : Nat) (hj : j < 8) (A B : Tr) (hc : P j = .op A B) : Con l y_Mo_about M_Mo_about 2 46 [.ref 0, .int (nI j), .int 0] (moH lf rt nx sz hg nu hd (nI n) nm le (nI ns) pl wa tx (nI L) ou (nI no) wd ws tw tg o1 s1 atp F FP pS pF pT pL op it isz wh dn wk me 0 ot) 25 0 0 0 (fun r h' => r = some (.int 2) ∧ m_ok n ns T L w P F FP O h') := by
  have h16n := hx.1.n16
  refine Con.ent ok_Mo_about (by decide +kernel) rfl ?_
  intro pA eA sA mA argsA belowA methA cA GA μA
  refine aw_go 1 1 [some (.ref 0), some (.int (nI j)), some (.int 0), none] [.int (nI j)] (moH lf rt nx sz hg nu hd (nI n) nm le (nI ns) pl wa tx (nI L) ou (nI no) wd ws tw tg o1 s1 atp F FP pS pF pT pL op it isz wh dn wk me 0 ot) rfl ?_
  refine aw_cS [] (c_Mo_isP1 l j hj) rfl cw_Mo_236 rfl rfl rfl rfl (Nat.le_refl _) (Nat.le_refl _) (fun r h' hp => ?_)
  obtain ⟨rfl, rfl⟩ := hp
  refine aw_go 0 4 [some (.ref 0), some (.int (nI j)), some (.int 0), none] [.int 1] (moH lf rt nx sz hg nu hd (nI n) nm le (nI ns) pl wa tx (nI L) ou (nI no) wd ws tw tg o1 s1 atp F FP pS pF pT pL op it isz wh dn wk me 0 ot) rfl ?_
  refine aw_if_ne rfl (fun h4 => ?_) (fun h4 => absurd h4 (by decide))
  refine aw_go 3 14 [some (.ref 0), some (.int (nI j)), some (.int 0), none] [.int (nI j), .ref 10] (moH lf rt nx sz hg nu hd (nI n) nm le (nI ns) pl wa tx (nI L) ou (nI no) wd ws tw tg o1 s1 atp F FP pS pF pT pL op it isz wh dn wk me 0 ot) rfl ?_
  refine aw_ialdN rfl rfl ⟨by omega, by omega⟩ ?_
  obtain ⟨i, hi, hpl_i, ht_i⟩ := hx.2.2.2.2.1 j hj
  rw [hpl_i]
  obtain ⟨a, b, ha, hb, hlf, hrt, hta, htb⟩ := hx.1.pr hi (by rw [ht_i]; exact hc)
  refine aw_go 2 17 [some (.ref 0), some (.int (nI j)), some (.int 0), some (.int (nI i))] [.int 0] (moH lf rt nx sz hg nu hd (nI n) nm le (nI ns) pl wa tx (nI L) ou (nI no) wd ws tw tg o1 s1 atp F FP pS pF pT pL op it isz wh dn wk me 0 ot) rfl ?_
  refine aw_tabK 0 35 52 rfl rfl (by decide) ?_
  refine aw_go 2 54 [some (.ref 0), some (.int (nI j)), some (.int 0), some (.int (nI i))] [.int (nI i), .ref 0] (moH lf rt nx sz hg nu hd (nI n) nm le (nI ns) pl wa tx (nI L) ou (nI no) wd ws tw tg o1 s1 atp F FP pS pF pT pL op it isz wh dn wk me 0 ot) rfl ?_
  refine aw_cV [0, 1, 2, 3, 4, 5, 6, 7, 8, 9, 10, 11, 12, 13, 14, 15, 16, 17, 18, 19, 20, 21, 22, 23, 24] (c_Mo_isNatural_p l lf rt nx sz hg nu hd (nI n) nm le (nI ns) pl wa tx (nI L) ou (nI no) wd ws tw tg o1 s1 atp F FP pS pF pT pL op it isz wh dn wk me 0 ot i a (by omega) (by omega) hlf) rfl cw_Mo_242 rfl rfl rfl rfl rfl rfl (Nat.le_refl _) (Nat.le_refl _) (fun r h' hp => ?_)
  obtain ⟨rfl, rfl⟩ := hp
  refine aw_go 0 57 [some (.ref 0), some (.int (nI j)), some (.int 0), some (.int (nI i))] [.int 0] (moH lf rt nx sz hg nu hd (nI n) nm le (nI ns) pl wa tx (nI L) ou (nI no) wd ws tw tg o1 s1 atp F FP pS pF pT pL op it isz wh dn wk me 0 ot) rfl ?_
  refine aw_if_eq rfl (fun h57 => ?_) (fun h57 => absurd h57 (by decide))
  refine aw_go 2 66 [some (.ref 0), some (.int (nI j)), some (.int 0), some (.int (nI i))] [.int (nI i), .ref 0] (moH lf rt nx sz hg nu hd (nI n) nm le (nI ns) pl wa tx (nI L) ou (nI no) wd ws tw tg o1 s1 atp F FP pS pF pT pL op it isz wh dn wk me 0 ot) rfl ?_
  refine aw_cV [0, 1, 2, 3, 4, 5, 6, 7, 8, 9, 10, 11, 12, 13, 14, 15, 16, 17, 18, 19, 20, 21, 22, 23, 24] (c_Mo_isSymbol_p l lf rt nx sz hg nu hd (nI n) nm le (nI ns) pl wa tx (nI L) ou (nI no) wd ws tw tg o1 s1 atp F FP pS pF pT pL op it isz wh dn wk me 0 ot i a (by omega) (by omega) hlf) rfl cw_Mo_209 rfl rfl rfl rfl rfl rfl (Nat.le_refl _) (Nat.le_refl _) (fun r h' hp => ?_)
  obtain ⟨rfl, rfl⟩ := hp
  refine aw_go 0 69 [some (.ref 0), some (.int (nI j)), some (.int 0), some (.int (nI i))] [.int 0] (moH lf rt nx sz hg nu hd (nI n) nm le (nI ns) pl wa tx (nI L) ou (nI no) wd ws tw tg o1 s1 atp F FP pS pF pT pL op it isz wh dn wk me 0 ot) rfl ?_
  refine aw_if_eq rfl (fun h69 => ?_) (fun h69 => absurd h69 (by decide))
  refine aw_go 1 77 [some (.ref 0), some (.int (nI j)), some (.int 0), some (.int (nI i))] [.int 2] (moH lf rt nx sz hg nu hd (nI n) nm le (nI ns) pl wa tx (nI L) ou (nI no) wd ws tw tg o1 s1 atp F FP pS pF pT pL op it isz wh dn wk me 0 ot) rfl ?_
  exact aw_iret rfl rfl rfl ⟨rfl, m_mk hx⟩ rfl (Nat.le_refl _) (Nat.le_refl _) -- [.int 2] (moH lf rt nx sz hg nu hd (nI n) nm le (nI ns) pl wa tx (nI L) ou (nI no) wd ws tw tg o1 s1 atp F FP pS pF pT pL op it isz wh dn wk me 0 ot)
set_option maxHeartbeats 2000000 in
set_option maxRecDepth 100000 in
theorem c_Mo_about_1 (l : Launch) (lf rt nx sz hg : Nat → Int32) (nu : Nat → Int64) (hd nm le pl wa tx ou wd : Nat → Int32) (ws : Int32) (tw : Nat → Int32) (tg : Int32) (o1 : Nat → Int32) (s1 atp : Int32) (pS pF pT pL : Nat → Int32) (op : Int32) (it : Nat → Int32) (isz wh dn : Int32) (wk me ot : Nat → Int32) (n ns no : Nat) (t : Nat → Tr) (T : Nat → Nat) (L : Nat) (w : Nat → Nat) (P : Nat → Tr) (F FP : Int32) (O : List Nat) (hx : m_in n ns t lf rt nx hg nu hd nm le pl wa tx ou no T L w P O) (j : Nat) (hj : j < 8) : Con l y_Mo_about M_Mo_about 2 46 [.ref 0, .int (nI j), .int 1] (moH lf rt nx sz hg nu hd (nI n) nm le (nI ns) pl wa tx (nI L) ou (nI no) wd ws tw tg o1 s1 atp F FP pS pF pT pL op it isz wh dn wk me 0 ot) 25 0 0 0 (fun r h' => r = some (.int (nI (tr_dep (P j)))) ∧ m_ok n ns T L w P F FP O h') := by
  have h16n := hx.1.n16
  refine Con.ent ok_Mo_about (by decide +kernel) rfl ?_
  intro pA eA sA mA argsA belowA methA cA GA μA
  refine aw_go 1 1 [some (.ref 0), some (.int (nI j)), some (.int 1), none] [.int (nI j)] (moH lf rt nx sz hg nu hd (nI n) nm le (nI ns) pl wa tx (nI L) ou (nI no) wd ws tw tg o1 s1 atp F FP pS pF pT pL op it isz wh dn wk me 0 ot) rfl ?_
  refine aw_cS [] (c_Mo_isP1 l j hj) rfl cw_Mo_236 rfl rfl rfl rfl (Nat.le_refl _) (Nat.le_refl _) (fun r h' hp => ?_)
  obtain ⟨rfl, rfl⟩ := hp
  refine aw_go 0 4 [some (.ref 0), some (.int (nI j)), some (.int 1), none] [.int 1] (moH lf rt nx sz hg nu hd (nI n) nm le (nI ns) pl wa tx (nI L) ou (nI no) wd ws tw tg o1 s1 atp F FP pS pF pT pL op it isz wh dn wk me 0 ot) rfl ?_
  refine aw_if_ne rfl (fun h4 => ?_) (fun h4 => absurd h4 (by decide))
  refine aw_go 3 14 [some (.ref 0), some (.int (nI j)), some (.int 1), none] [.int (nI j), .ref 10] (moH lf rt nx sz hg nu hd (nI n) nm le (nI ns) pl wa tx (nI L) ou (nI no) wd ws tw tg o1 s1 atp F FP pS pF pT pL op it isz wh dn wk me 0 ot) rfl ?_
  refine aw_ialdN rfl rfl ⟨by omega, by omega⟩ ?_
  obtain ⟨i, hi, hpl_i, ht_i⟩ := hx.2.2.2.2.1 j hj
  rw [hpl_i]
  refine aw_go 2 17 [some (.ref 0), some (.int (nI j)), some (.int 1), some (.int (nI i))] [.int 1] (moH lf rt nx sz hg nu hd (nI n) nm le (nI ns) pl wa tx (nI L) ou (nI no) wd ws tw tg o1 s1 atp F FP pS pF pT pL op it isz wh dn wk me 0 ot) rfl ?_
  refine aw_tabK 1 61 78 rfl rfl (by decide) ?_
  refine aw_go 3 83 [some (.ref 0), some (.int (nI j)), some (.int 1), some (.int (nI i))] [.int (nI i), .ref 5] (moH lf rt nx sz hg nu hd (nI n) nm le (nI ns) pl wa tx (nI L) ou (nI no) wd ws tw tg o1 s1 atp F FP pS pF pT pL op it isz wh dn wk me 0 ot) rfl ?_
  refine aw_ialdN rfl rfl ⟨by omega, by omega⟩ ?_
  exact aw_iret rfl rfl rfl ⟨by rw [(hx.1.dep hi).1, ht_i], m_mk hx⟩ rfl (Nat.le_refl _) (Nat.le_refl _) -- [.int (hg i)] (moH lf rt nx sz hg nu hd (nI n) nm le (nI ns) pl wa tx (nI L) ou (nI no) wd ws tw tg o1 s1 atp F FP pS pF pT pL op it isz wh dn wk me 0 ot)
set_option maxHeartbeats 2000000 in
set_option maxRecDepth 100000 in
theorem c_Mo_about_2 (l : Launch) (lf rt nx sz hg : Nat → Int32) (nu : Nat → Int64) (hd nm le pl wa tx ou wd : Nat → Int32) (ws : Int32) (tw : Nat → Int32) (tg : Int32) (o1 : Nat → Int32) (s1 atp : Int32) (pS pF pT pL : Nat → Int32) (op : Int32) (it : Nat → Int32) (isz wh dn : Int32) (wk me ot : Nat → Int32) (n ns no : Nat) (t : Nat → Tr) (T : Nat → Nat) (L : Nat) (w : Nat → Nat) (P : Nat → Tr) (F FP : Int32) (O : List Nat) (hx : m_in n ns t lf rt nx hg nu hd nm le pl wa tx ou no T L w P O) (j : Nat) (hj : j < 8) : Con l y_Mo_about M_Mo_about 2 46 [.ref 0, .int (nI j), .int 2] (moH lf rt nx sz hg nu hd (nI n) nm le (nI ns) pl wa tx (nI L) ou (nI no) wd ws tw tg o1 s1 atp F FP pS pF pT pL op it isz wh dn wk me 0 ot) 25 0 0 0 (fun r h' => r = some (.int (oI (tr_len (P j)))) ∧ m_ok n ns T L w P F FP O h') := by
  have h16n := hx.1.n16
  refine Con.ent ok_Mo_about (by decide +kernel) rfl ?_
  intro pA eA sA mA argsA belowA methA cA GA μA
  refine aw_go 1 1 [some (.ref 0), some (.int (nI j)), some (.int 2), none] [.int (nI j)] (moH lf rt nx sz hg nu hd (nI n) nm le (nI ns) pl wa tx (nI L) ou (nI no) wd ws tw tg o1 s1 atp F FP pS pF pT pL op it isz wh dn wk me 0 ot) rfl ?_
  refine aw_cS [] (c_Mo_isP1 l j hj) rfl cw_Mo_236 rfl rfl rfl rfl (Nat.le_refl _) (Nat.le_refl _) (fun r h' hp => ?_)
  obtain ⟨rfl, rfl⟩ := hp
  refine aw_go 0 4 [some (.ref 0), some (.int (nI j)), some (.int 2), none] [.int 1] (moH lf rt nx sz hg nu hd (nI n) nm le (nI ns) pl wa tx (nI L) ou (nI no) wd ws tw tg o1 s1 atp F FP pS pF pT pL op it isz wh dn wk me 0 ot) rfl ?_
  refine aw_if_ne rfl (fun h4 => ?_) (fun h4 => absurd h4 (by decide))
  refine aw_go 3 14 [some (.ref 0), some (.int (nI j)), some (.int 2), none] [.int (nI j), .ref 10] (moH lf rt nx sz hg nu hd (nI n) nm le (nI ns) pl wa tx (nI L) ou (nI no) wd ws tw tg o1 s1 atp F FP pS pF pT pL op it isz wh dn wk me 0 ot) rfl ?_
  refine aw_ialdN rfl rfl ⟨by omega, by omega⟩ ?_
  obtain ⟨i, hi, hpl_i, ht_i⟩ := hx.2.2.2.2.1 j hj
  rw [hpl_i]
  refine aw_go 2 17 [some (.ref 0), some (.int (nI j)), some (.int 2), some (.int (nI i))] [.int 2] (moH lf rt nx sz hg nu hd (nI n) nm le (nI ns) pl wa tx (nI L) ou (nI no) wd ws tw tg o1 s1 atp F FP pS pF pT pL op it isz wh dn wk me 0 ot) rfl ?_
  refine aw_tabK 2 68 85 rfl rfl (by decide) ?_
  refine aw_go 2 87 [some (.ref 0), some (.int (nI j)), some (.int 2), some (.int (nI i))] [.int (nI i), .ref 0] (moH lf rt nx sz hg nu hd (nI n) nm le (nI ns) pl wa tx (nI L) ou (nI no) wd ws tw tg o1 s1 atp F FP pS pF pT pL op it isz wh dn wk me 0 ot) rfl ?_
  refine aw_cV [0, 1, 2, 3, 4, 5, 6, 7, 8, 9, 10, 11, 12, 13, 14, 15, 16, 17, 18, 19, 20, 21, 22, 23, 24] (c_Mo_lengthOf l lf rt nx sz hg nu hd nm le pl wa tx (nI L) ou (nI no) wd ws tw tg o1 s1 atp F FP pS pF pT pL op it isz wh dn wk me 0 ot n ns t hx.1 i hi hx.2.1) rfl cw_Mo_247 rfl rfl rfl rfl rfl rfl (Nat.le_refl _) (Nat.le_refl _) (fun r h' hp => ?_)
  obtain ⟨rfl, rfl⟩ := hp
  rw [ht_i]
  refine aw_go 0 90 [some (.ref 0), some (.int (nI j)), some (.int 2), some (.int (nI i))] [.int (oI (tr_len (P j)))] (moH lf rt nx sz hg nu hd (nI n) nm le (nI ns) pl wa tx (nI L) ou (nI no) wd ws tw tg o1 s1 atp F FP pS pF pT pL op it isz wh dn wk me 0 ot) rfl ?_
  exact aw_iret rfl rfl rfl ⟨rfl, m_mk hx⟩ rfl (Nat.le_refl _) (Nat.le_refl _) -- [.int (oI (tr_len (P j)))] (moH lf rt nx sz hg nu hd (nI n) nm le (nI ns) pl wa tx (nI L) ou (nI no) wd ws tw tg o1 s1 atp F FP pS pF pT pL op it isz wh dn wk me 0 ot)
set_option maxHeartbeats 2000000 in
set_option maxRecDepth 100000 in
theorem c_Mo_about_3 (l : Launch) (lf rt nx sz hg : Nat → Int32) (nu : Nat → Int64) (hd nm le pl wa tx ou wd : Nat → Int32) (ws : Int32) (tw : Nat → Int32) (tg : Int32) (o1 : Nat → Int32) (s1 atp : Int32) (pS pF pT pL : Nat → Int32) (op : Int32) (it : Nat → Int32) (isz wh dn : Int32) (wk me ot : Nat → Int32) (n ns no : Nat) (t : Nat → Tr) (T : Nat → Nat) (L : Nat) (w : Nat → Nat) (P : Nat → Tr) (F FP : Int32) (O : List Nat) (hx : m_in n ns t lf rt nx hg nu hd nm le pl wa tx ou no T L w P O) (j : Nat) (hj : j < 8) : Con l y_Mo_about M_Mo_about 2 46 [.ref 0, .int (nI j), .int 3] (moH lf rt nx sz hg nu hd (nI n) nm le (nI ns) pl wa tx (nI L) ou (nI no) wd ws tw tg o1 s1 atp F FP pS pF pT pL op it isz wh dn wk me 0 ot) 25 0 0 0 (fun r h' => ∃ q, cnt_R (P j) true q ∧ r = some (.int (nI q)) ∧ m_ok n ns T L w P F FP O h') := by
  have h16n := hx.1.n16
  refine Con.ent ok_Mo_about (by decide +kernel) rfl ?_
  intro pA eA sA mA argsA belowA methA cA GA μA
  refine aw_go 1 1 [some (.ref 0), some (.int (nI j)), some (.int 3), none] [.int (nI j)] (moH lf rt nx sz hg nu hd (nI n) nm le (nI ns) pl wa tx (nI L) ou (nI no) wd ws tw tg o1 s1 atp F FP pS pF pT pL op it isz wh dn wk me 0 ot) rfl ?_
  refine aw_cS [] (c_Mo_isP1 l j hj) rfl cw_Mo_236 rfl rfl rfl rfl (Nat.le_refl _) (Nat.le_refl _) (fun r h' hp => ?_)
  obtain ⟨rfl, rfl⟩ := hp
  refine aw_go 0 4 [some (.ref 0), some (.int (nI j)), some (.int 3), none] [.int 1] (moH lf rt nx sz hg nu hd (nI n) nm le (nI ns) pl wa tx (nI L) ou (nI no) wd ws tw tg o1 s1 atp F FP pS pF pT pL op it isz wh dn wk me 0 ot) rfl ?_
  refine aw_if_ne rfl (fun h4 => ?_) (fun h4 => absurd h4 (by decide))
  refine aw_go 3 14 [some (.ref 0), some (.int (nI j)), some (.int 3), none] [.int (nI j), .ref 10] (moH lf rt nx sz hg nu hd (nI n) nm le (nI ns) pl wa tx (nI L) ou (nI no) wd ws tw tg o1 s1 atp F FP pS pF pT pL op it isz wh dn wk me 0 ot) rfl ?_
  refine aw_ialdN rfl rfl ⟨by omega, by omega⟩ ?_
  obtain ⟨i, hi, hpl_i, ht_i⟩ := hx.2.2.2.2.1 j hj
  rw [hpl_i]
  refine aw_go 2 17 [some (.ref 0), some (.int (nI j)), some (.int 3), some (.int (nI i))] [.int 3] (moH lf rt nx sz hg nu hd (nI n) nm le (nI ns) pl wa tx (nI L) ou (nI no) wd ws tw tg o1 s1 atp F FP pS pF pT pL op it isz wh dn wk me 0 ot) rfl ?_
  refine aw_tabK 3 74 91 rfl rfl (by decide) ?_
  refine aw_go 3 94 [some (.ref 0), some (.int (nI j)), some (.int 3), some (.int (nI i))] [.int 1, .int (nI i), .ref 0] (moH lf rt nx sz hg nu hd (nI n) nm le (nI ns) pl wa tx (nI L) ou (nI no) wd ws tw tg o1 s1 atp F FP pS pF pT pL op it isz wh dn wk me 0 ot) rfl ?_
  refine aw_cV [0, 1, 2, 3, 4, 5, 6, 7, 8, 9, 10, 11, 12, 13, 14, 15, 16, 17, 18, 19, 20, 21, 22, 23, 24] (c_Mo_different l lf rt nx sz hg nu hd nm le pl wa tx (nI L) ou (nI no) wd ws tw tg o1 s1 atp F FP pS pF pT pL op it isz wh dn wk me 0 ot n ns t hx.1 i hi true hx.2.1) rfl cw_Mo_251 rfl rfl rfl rfl rfl rfl (Nat.le_refl _) (Nat.le_refl _) (fun r h' hp => ?_)
  obtain ⟨me2, wk2, q, hcq, rfl, rfl⟩ := hp
  refine aw_go 0 97 [some (.ref 0), some (.int (nI j)), some (.int 3), some (.int (nI i))] [.int (nI q)] (moH lf rt nx sz hg nu hd (nI n) nm le (nI ns) pl wa tx (nI L) ou (nI no) wd ws tw tg o1 s1 atp F FP pS pF pT pL op it isz wh dn wk2 me2 0 ot) rfl ?_
  exact aw_iret rfl rfl rfl ⟨q, by rw [← ht_i]; exact hcq, rfl, m_mk hx⟩ rfl (Nat.le_refl _) (Nat.le_refl _) -- [.int (nI q)] (moH lf rt nx sz hg nu hd (nI n) nm le (nI ns) pl wa tx (nI L) ou (nI no) wd ws tw tg o1 s1 atp F FP pS pF pT pL op it isz wh dn wk2 me2 0 ot)
set_option maxHeartbeats 2000000 in
set_option maxRecDepth 100000 in
theorem c_Mo_about_4 (l : Launch) (lf rt nx sz hg : Nat → Int32) (nu : Nat → Int64) (hd nm le pl wa tx ou wd : Nat → Int32) (ws : Int32) (tw : Nat → Int32) (tg : Int32) (o1 : Nat → Int32) (s1 atp : Int32) (pS pF pT pL : Nat → Int32) (op : Int32) (it : Nat → Int32) (isz wh dn : Int32) (wk me ot : Nat → Int32) (n ns no : Nat) (t : Nat → Tr) (T : Nat → Nat) (L : Nat) (w : Nat → Nat) (P : Nat → Tr) (F FP : Int32) (O : List Nat) (hx : m_in n ns t lf rt nx hg nu hd nm le pl wa tx ou no T L w P O) (j : Nat) (hj : j < 8) : Con l y_Mo_about M_Mo_about 2 46 [.ref 0, .int (nI j), .int 4] (moH lf rt nx sz hg nu hd (nI n) nm le (nI ns) pl wa tx (nI L) ou (nI no) wd ws tw tg o1 s1 atp F FP pS pF pT pL op it isz wh dn wk me 0 ot) 25 0 0 0 (fun r h' => ∃ q, cnt_R (P j) false q ∧ r = some (.int (nI q)) ∧ m_ok n ns T L w P F FP O h') := by
  have h16n := hx.1.n16
  refine Con.ent ok_Mo_about (by decide +kernel) rfl ?_
  intro pA eA sA mA argsA belowA methA cA GA μA
  refine aw_go 1 1 [some (.ref 0), some (.int (nI j)), some (.int 4), none] [.int (nI j)] (moH lf rt nx sz hg nu hd (nI n) nm le (nI ns) pl wa tx (nI L) ou (nI no) wd ws tw tg o1 s1 atp F FP pS pF pT pL op it isz wh dn wk me 0 ot) rfl ?_
  refine aw_cS [] (c_Mo_isP1 l j hj) rfl cw_Mo_236 rfl rfl rfl rfl (Nat.le_refl _) (Nat.le_refl _) (fun r h' hp => ?_)
  obtain ⟨rfl, rfl⟩ := hp
  refine aw_go 0 4 [some (.ref 0), some (.int (nI j)), some (.int 4), none] [.int 1] (moH lf rt nx sz hg nu hd (nI n) nm le (nI ns) pl wa tx (nI L) ou (nI no) wd ws tw tg o1 s1 atp F FP pS pF pT pL op it isz wh dn wk me 0 ot) rfl ?_
  refine aw_if_ne rfl (fun h4 => ?_) (fun h4 => absurd h4 (by decide))
  refine aw_go 3 14 [some (.ref 0), some (.int (nI j)), some (.int 4), none] [.int (nI j), .ref 10] (moH lf rt nx sz hg nu hd (nI n) nm le (nI ns) pl wa tx (nI L) ou (nI no) wd ws tw tg o1 s1 atp F FP pS pF pT pL op it isz wh dn wk me 0 ot) rfl ?_
  refine aw_ialdN rfl rfl ⟨by omega, by omega⟩ ?_
  obtain ⟨i, hi, hpl_i, ht_i⟩ := hx.2.2.2.2.1 j hj
  rw [hpl_i]
  refine aw_go 2 17 [some (.ref 0), some (.int (nI j)), some (.int 4), some (.int (nI i))] [.int 4] (moH lf rt nx sz hg nu hd (nI n) nm le (nI ns) pl wa tx (nI L) ou (nI no) wd ws tw tg o1 s1 atp F FP pS pF pT pL op it isz wh dn wk me 0 ot) rfl ?_
  refine aw_tabK 4 81 98 rfl rfl (by decide) ?_
  refine aw_go 3 101 [some (.ref 0), some (.int (nI j)), some (.int 4), some (.int (nI i))] [.int 0, .int (nI i), .ref 0] (moH lf rt nx sz hg nu hd (nI n) nm le (nI ns) pl wa tx (nI L) ou (nI no) wd ws tw tg o1 s1 atp F FP pS pF pT pL op it isz wh dn wk me 0 ot) rfl ?_
  refine aw_cV [0, 1, 2, 3, 4, 5, 6, 7, 8, 9, 10, 11, 12, 13, 14, 15, 16, 17, 18, 19, 20, 21, 22, 23, 24] (c_Mo_different l lf rt nx sz hg nu hd nm le pl wa tx (nI L) ou (nI no) wd ws tw tg o1 s1 atp F FP pS pF pT pL op it isz wh dn wk me 0 ot n ns t hx.1 i hi false hx.2.1) rfl cw_Mo_251 rfl rfl rfl rfl rfl rfl (Nat.le_refl _) (Nat.le_refl _) (fun r h' hp => ?_)
  obtain ⟨me2, wk2, q, hcq, rfl, rfl⟩ := hp
  refine aw_go 0 104 [some (.ref 0), some (.int (nI j)), some (.int 4), some (.int (nI i))] [.int (nI q)] (moH lf rt nx sz hg nu hd (nI n) nm le (nI ns) pl wa tx (nI L) ou (nI no) wd ws tw tg o1 s1 atp F FP pS pF pT pL op it isz wh dn wk2 me2 0 ot) rfl ?_
  exact aw_iret rfl rfl rfl ⟨q, by rw [← ht_i]; exact hcq, rfl, m_mk hx⟩ rfl (Nat.le_refl _) (Nat.le_refl _) -- [.int (nI q)] (moH lf rt nx sz hg nu hd (nI n) nm le (nI ns) pl wa tx (nI L) ou (nI no) wd ws tw tg o1 s1 atp F FP pS pF pT pL op it isz wh dn wk2 me2 0 ot)
set_option maxHeartbeats 2000000 in
set_option maxRecDepth 100000 in
theorem c_Mo_about_w (l : Launch) (lf rt nx sz hg : Nat → Int32) (nu : Nat → Int64) (hd nm le pl wa tx ou wd : Nat → Int32) (ws : Int32) (tw : Nat → Int32) (tg : Int32) (o1 : Nat → Int32) (s1 atp : Int32) (pS pF pT pL : Nat → Int32) (op : Int32) (it : Nat → Int32) (isz wh dn : Int32) (wk me ot : Nat → Int32) (n ns no : Nat) (t : Nat → Tr) (T : Nat → Nat) (L : Nat) (w : Nat → Nat) (P : Nat → Tr) (F FP : Int32) (O : List Nat) (hx : m_in n ns t lf rt nx hg nu hd nm le pl wa tx ou no T L w P O) (j : Nat) (hj : j < 8) (x : Int32) (hw : x ≠ 0 ∧ x ≠ 1 ∧ x ≠ 2 ∧ x ≠ 3 ∧ x ≠ 4) : Con l y_Mo_about M_Mo_about 2 46 [.ref 0, .int (nI j), .int x] (moH lf rt nx sz hg nu hd (nI n) nm le (nI ns) pl wa tx (nI L) ou (nI no) wd ws tw tg o1 s1 atp F FP pS pF pT pL op it isz wh dn wk me 0 ot) 25 0 0 0 (fun r h' => r = some (.int (-1)) ∧ m_ok n ns T L w P F FP O h') := by
  refine Con.ent ok_Mo_about (by decide +kernel) rfl ?_
  intro pA eA sA mA argsA belowA methA cA GA μA
  refine aw_go 1 1 [some (.ref 0), some (.int (nI j)), some (.int x), none] [.int (nI j)] (moH lf rt nx sz hg nu hd (nI n) nm le (nI ns) pl wa tx (nI L) ou (nI no) wd ws tw tg o1 s1 atp F FP pS pF pT pL op it isz wh dn wk me 0 ot) rfl ?_
  refine aw_cS [] (c_Mo_isP1 l j hj) rfl cw_Mo_236 rfl rfl rfl rfl (Nat.le_refl _) (Nat.le_refl _) (fun r h' hp => ?_)
  obtain ⟨rfl, rfl⟩ := hp
  refine aw_go 0 4 [some (.ref 0), some (.int (nI j)), some (.int x), none] [.int 1] (moH lf rt nx sz hg nu hd (nI n) nm le (nI ns) pl wa tx (nI L) ou (nI no) wd ws tw tg o1 s1 atp F FP pS pF pT pL op it isz wh dn wk me 0 ot) rfl ?_
  refine aw_if_ne rfl (fun h4 => ?_) (fun h4 => absurd h4 (by decide))
  refine aw_go 3 14 [some (.ref 0), some (.int (nI j)), some (.int x), none] [.int (nI j), .ref 10] (moH lf rt nx sz hg nu hd (nI n) nm le (nI ns) pl wa tx (nI L) ou (nI no) wd ws tw tg o1 s1 atp F FP pS pF pT pL op it isz wh dn wk me 0 ot) rfl ?_
  refine aw_ialdN rfl rfl ⟨by omega, by omega⟩ ?_
  refine aw_go 2 17 [some (.ref 0), some (.int (nI j)), some (.int x), some (.int (pl j))] [.int x] (moH lf rt nx sz hg nu hd (nI n) nm le (nI ns) pl wa tx (nI L) ou (nI no) wd ws tw tg o1 s1 atp F FP pS pF pT pL op it isz wh dn wk me 0 ot) rfl ?_
  by_cases hz17_0 : x = 0
  · exact absurd hz17_0 (hw.1)
  by_cases hz17_1 : x = 1
  · exact absurd hz17_1 (hw.2.1)
  by_cases hz17_2 : x = 2
  · exact absurd hz17_2 (hw.2.2.1)
  by_cases hz17_3 : x = 3
  · exact absurd hz17_3 (hw.2.2.2.1)
  by_cases hz17_4 : x = 4
  · exact absurd hz17_4 hw.2.2.2.2
  refine aw_tabD 105 rfl (by have q0 := lv_neT (a := 0) hz17_0 (by decide); have q1 := lv_neT (a := 1) hz17_1 (by decide); have q2 := lv_neT (a := 2) hz17_2 (by decide); have q3 := lv_neT (a := 3) hz17_3 (by decide); have q4 := lv_neT (a := 4) hz17_4 (by decide); omega) (by decide) ?_
  refine aw_go 1 106 [some (.ref 0), some (.int (nI j)), some (.int x), some (.int (pl j))] [.int (-1)] (moH lf rt nx sz hg nu hd (nI n) nm le (nI ns) pl wa tx (nI L) ou (nI no) wd ws tw tg o1 s1 atp F FP pS pF pT pL op it isz wh dn wk me 0 ot) rfl ?_
  exact aw_iret rfl rfl rfl ⟨rfl, m_mk hx⟩ rfl (Nat.le_refl _) (Nat.le_refl _) -- [.int (-1)] (moH lf rt nx sz hg nu hd (nI n) nm le (nI ns) pl wa tx (nI L) ou (nI no) wd ws tw tg o1 s1 atp F FP pS pF pT pL op it isz wh dn wk me 0 ot)
set_option maxHeartbeats 2000000 in
set_option maxRecDepth 100000 in
theorem c_Mo_about_n (l : Launch) (lf rt nx sz hg : Nat → Int32) (nu : Nat → Int64) (hd nm le pl wa tx ou wd : Nat → Int32) (ws : Int32) (tw : Nat → Int32) (tg : Int32) (o1 : Nat → Int32) (s1 atp : Int32) (pS pF pT pL : Nat → Int32) (op : Int32) (it : Nat → Int32) (isz wh dn : Int32) (wk me ot : Nat → Int32) (n ns no : Nat) (t : Nat → Tr) (T : Nat → Nat) (L : Nat) (w : Nat → Nat) (P : Nat → Tr) (F FP : Int32) (O : List Nat) (hx : m_in n ns t lf rt nx hg nu hd nm le pl wa tx ou no T L w P O) (p x : Int32) (hp : ¬ isP p) : Con l y_Mo_about M_Mo_about 2 46 [.ref 0, .int p, .int x] (moH lf rt nx sz hg nu hd (nI n) nm le (nI ns) pl wa tx (nI L) ou (nI no) wd ws tw tg o1 s1 atp F FP pS pF pT pL op it isz wh dn wk me 0 ot) 25 0 0 0 (fun r h' => r = some (.int (-1)) ∧ m_ok n ns T L w P F FP O h') := by
  refine Con.ent ok_Mo_about (by decide +kernel) rfl ?_
  intro pA eA sA mA argsA belowA methA cA GA μA
  refine aw_go 1 1 [some (.ref 0), some (.int p), some (.int x), none] [.int p] (moH lf rt nx sz hg nu hd (nI n) nm le (nI ns) pl wa tx (nI L) ou (nI no) wd ws tw tg o1 s1 atp F FP pS pF pT pL op it isz wh dn wk me 0 ot) rfl ?_
  refine aw_cS [] (c_Mo_isP0 l p hp) rfl cw_Mo_236 rfl rfl rfl rfl (Nat.le_refl _) (Nat.le_refl _) (fun r h' hp => ?_)
  obtain ⟨rfl, rfl⟩ := hp
  refine aw_go 0 4 [some (.ref 0), some (.int p), some (.int x), none] [.int 0] (moH lf rt nx sz hg nu hd (nI n) nm le (nI ns) pl wa tx (nI L) ou (nI no) wd ws tw tg o1 s1 atp F FP pS pF pT pL op it isz wh dn wk me 0 ot) rfl ?_
  refine aw_if_ne rfl (fun h4 => absurd h4 (by decide)) (fun h4 => ?_)
  refine aw_go 1 8 [some (.ref 0), some (.int p), some (.int x), none] [.int (-1)] (moH lf rt nx sz hg nu hd (nI n) nm le (nI ns) pl wa tx (nI L) ou (nI no) wd ws tw tg o1 s1 atp F FP pS pF pT pL op it isz wh dn wk me 0 ot) rfl ?_
  exact aw_iret rfl rfl rfl ⟨rfl, m_mk hx⟩ rfl (Nat.le_refl _) (Nat.le_refl _) -- [.int (-1)] (moH lf rt nx sz hg nu hd (nI n) nm le (nI ns) pl wa tx (nI L) ou (nI no) wd ws tw tg o1 s1 atp F FP pS pF pT pL op it isz wh dn wk me 0 ot)
set_option maxHeartbeats 2000000 in
set_option maxRecDepth 100000 in
theorem c_Mo_same_e (l : Launch) (lf rt nx sz hg : Nat → Int32) (nu : Nat → Int64) (hd nm le pl wa tx ou wd : Nat → Int32) (ws : Int32) (tw : Nat → Int32) (tg : Int32) (o1 : Nat → Int32) (s1 atp : Int32) (pS pF pT pL : Nat → Int32) (op : Int32) (it : Nat → Int32) (isz wh dn : Int32) (wk me ot : Nat → Int32) (n ns no : Nat) (t : Nat → Tr) (T : Nat → Nat) (L : Nat) (w : Nat → Nat) (P : Nat → Tr) (F FP : Int32) (O : List Nat) (hx : m_in n ns t lf rt nx hg nu hd nm le pl wa tx ou no T L w P O) (j k : Nat) (hj : j < 8) (hk : k < 8) (he : P j = P k) : Con l y_Mo_same M_Mo_same 1 20 [.ref 0, .int (nI j), .int (nI k)] (moH lf rt nx sz hg nu hd (nI n) nm le (nI ns) pl wa tx (nI L) ou (nI no) wd ws tw tg o1 s1 atp F FP pS pF pT pL op it isz wh dn wk me 0 ot) 25 0 0 0 (fun r h' => r = some (.int 1) ∧ m_ok n ns T L w P F FP O h') := by
  have h16n := hx.1.n16
  refine Con.ent ok_Mo_same (by decide +kernel) rfl ?_
  intro pA eA sA mA argsA belowA methA cA GA μA
  refine aw_go 1 1 [some (.ref 0), some (.int (nI j)), some (.int (nI k))] [.int (nI j)] (moH lf rt nx sz hg nu hd (nI n) nm le (nI ns) pl wa tx (nI L) ou (nI no) wd ws tw tg o1 s1 atp F FP pS pF pT pL op it isz wh dn wk me 0 ot) rfl ?_
  refine aw_cS [] (c_Mo_isP1 l j hj) rfl cw_Mo_236 rfl rfl rfl rfl (Nat.le_refl _) (Nat.le_refl _) (fun r h' hp => ?_)
  obtain ⟨rfl, rfl⟩ := hp
  refine aw_go 0 4 [some (.ref 0), some (.int (nI j)), some (.int (nI k))] [.int 1] (moH lf rt nx sz hg nu hd (nI n) nm le (nI ns) pl wa tx (nI L) ou (nI no) wd ws tw tg o1 s1 atp F FP pS pF pT pL op it isz wh dn wk me 0 ot) rfl ?_
  refine aw_if_eq rfl (fun h4 => absurd h4 (by decide)) (fun h4 => ?_)
  refine aw_go 1 8 [some (.ref 0), some (.int (nI j)), some (.int (nI k))] [.int (nI k)] (moH lf rt nx sz hg nu hd (nI n) nm le (nI ns) pl wa tx (nI L) ou (nI no) wd ws tw tg o1 s1 atp F FP pS pF pT pL op it isz wh dn wk me 0 ot) rfl ?_
  refine aw_cS [] (c_Mo_isP1 l k hk) rfl cw_Mo_236 rfl rfl rfl rfl (Nat.le_refl _) (Nat.le_refl _) (fun r h' hp => ?_)
  obtain ⟨rfl, rfl⟩ := hp
  refine aw_go 0 11 [some (.ref 0), some (.int (nI j)), some (.int (nI k))] [.int 1] (moH lf rt nx sz hg nu hd (nI n) nm le (nI ns) pl wa tx (nI L) ou (nI no) wd ws tw tg o1 s1 atp F FP pS pF pT pL op it isz wh dn wk me 0 ot) rfl ?_
  refine aw_if_eq rfl (fun h11 => absurd h11 (by decide)) (fun h11 => ?_)
  refine aw_go 3 19 [some (.ref 0), some (.int (nI j)), some (.int (nI k))] [.int (nI j), .ref 10] (moH lf rt nx sz hg nu hd (nI n) nm le (nI ns) pl wa tx (nI L) ou (nI no) wd ws tw tg o1 s1 atp F FP pS pF pT pL op it isz wh dn wk me 0 ot) rfl ?_
  refine aw_ialdN rfl rfl ⟨by omega, by omega⟩ ?_
  obtain ⟨i, hi, hpl_i, ht_i⟩ := hx.2.2.2.2.1 j hj
  rw [hpl_i]
  refine aw_go 3 25 [some (.ref 0), some (.int (nI j)), some (.int (nI k))] [.int (nI k), .ref 10, .int (nI i)] (moH lf rt nx sz hg nu hd (nI n) nm le (nI ns) pl wa tx (nI L) ou (nI no) wd ws tw tg o1 s1 atp F FP pS pF pT pL op it isz wh dn wk me 0 ot) rfl ?_
  refine aw_ialdN rfl rfl ⟨by omega, by omega⟩ ?_
  obtain ⟨i2, hi2, hpl_i2, ht_i2⟩ := hx.2.2.2.2.1 k hk
  rw [hpl_i2]
  refine aw_cmp_ne rfl (fun h26 => absurd (congrArg nI (hx.1.inj hi hi2 (by rw [ht_i, ht_i2]; exact he))) h26) (fun h26 => ?_)
  refine aw_go 2 34 [some (.ref 0), some (.int (nI j)), some (.int (nI k))] [.int 1] (moH lf rt nx sz hg nu hd (nI n) nm le (nI ns) pl wa tx (nI L) ou (nI no) wd ws tw tg o1 s1 atp F FP pS pF pT pL op it isz wh dn wk me 0 ot) rfl ?_
  exact aw_iret rfl (by decide) rfl ⟨rfl, m_mk hx⟩ rfl (Nat.le_refl _) (Nat.le_refl _) -- [.int 1] (moH lf rt nx sz hg nu hd (nI n) nm le (nI ns) pl wa tx (nI L) ou (nI no) wd ws tw tg o1 s1 atp F FP pS pF pT pL op it isz wh dn wk me 0 ot)
set_option maxHeartbeats 2000000 in
set_option maxRecDepth 100000 in
theorem c_Mo_same_d (l : Launch) (lf rt nx sz hg : Nat → Int32) (nu : Nat → Int64) (hd nm le pl wa tx ou wd : Nat → Int32) (ws : Int32) (tw : Nat → Int32) (tg : Int32) (o1 : Nat → Int32) (s1 atp : Int32) (pS pF pT pL : Nat → Int32) (op : Int32) (it : Nat → Int32) (isz wh dn : Int32) (wk me ot : Nat → Int32) (n ns no : Nat) (t : Nat → Tr) (T : Nat → Nat) (L : Nat) (w : Nat → Nat) (P : Nat → Tr) (F FP : Int32) (O : List Nat) (hx : m_in n ns t lf rt nx hg nu hd nm le pl wa tx ou no T L w P O) (j k : Nat) (hj : j < 8) (hk : k < 8) (he : P j ≠ P k) : Con l y_Mo_same M_Mo_same 1 20 [.ref 0, .int (nI j), .int (nI k)] (moH lf rt nx sz hg nu hd (nI n) nm le (nI ns) pl wa tx (nI L) ou (nI no) wd ws tw tg o1 s1 atp F FP pS pF pT pL op it isz wh dn wk me 0 ot) 25 0 0 0 (fun r h' => r = some (.int 0) ∧ m_ok n ns T L w P F FP O h') := by
  have h16n := hx.1.n16
  refine Con.ent ok_Mo_same (by decide +kernel) rfl ?_
  intro pA eA sA mA argsA belowA methA cA GA μA
  refine aw_go 1 1 [some (.ref 0), some (.int (nI j)), some (.int (nI k))] [.int (nI j)] (moH lf rt nx sz hg nu hd (nI n) nm le (nI ns) pl wa tx (nI L) ou (nI no) wd ws tw tg o1 s1 atp F FP pS pF pT pL op it isz wh dn wk me 0 ot) rfl ?_
  refine aw_cS [] (c_Mo_isP1 l j hj) rfl cw_Mo_236 rfl rfl rfl rfl (Nat.le_refl _) (Nat.le_refl _) (fun r h' hp => ?_)
  obtain ⟨rfl, rfl⟩ := hp
  refine aw_go 0 4 [some (.ref 0), some (.int (nI j)), some (.int (nI k))] [.int 1] (moH lf rt nx sz hg nu hd (nI n) nm le (nI ns) pl wa tx (nI L) ou (nI no) wd ws tw tg o1 s1 atp F FP pS pF pT pL op it isz wh dn wk me 0 ot) rfl ?_
  refine aw_if_eq rfl (fun h4 => absurd h4 (by decide)) (fun h4 => ?_)
  refine aw_go 1 8 [some (.ref 0), some (.int (nI j)), some (.int (nI k))] [.int (nI k)] (moH lf rt nx sz hg nu hd (nI n) nm le (nI ns) pl wa tx (nI L) ou (nI no) wd ws tw tg o1 s1 atp F FP pS pF pT pL op it isz wh dn wk me 0 ot) rfl ?_
  refine aw_cS [] (c_Mo_isP1 l k hk) rfl cw_Mo_236 rfl rfl rfl rfl (Nat.le_refl _) (Nat.le_refl _) (fun r h' hp => ?_)
  obtain ⟨rfl, rfl⟩ := hp
  refine aw_go 0 11 [some (.ref 0), some (.int (nI j)), some (.int (nI k))] [.int 1] (moH lf rt nx sz hg nu hd (nI n) nm le (nI ns) pl wa tx (nI L) ou (nI no) wd ws tw tg o1 s1 atp F FP pS pF pT pL op it isz wh dn wk me 0 ot) rfl ?_
  refine aw_if_eq rfl (fun h11 => absurd h11 (by decide)) (fun h11 => ?_)
  refine aw_go 3 19 [some (.ref 0), some (.int (nI j)), some (.int (nI k))] [.int (nI j), .ref 10] (moH lf rt nx sz hg nu hd (nI n) nm le (nI ns) pl wa tx (nI L) ou (nI no) wd ws tw tg o1 s1 atp F FP pS pF pT pL op it isz wh dn wk me 0 ot) rfl ?_
  refine aw_ialdN rfl rfl ⟨by omega, by omega⟩ ?_
  obtain ⟨i, hi, hpl_i, ht_i⟩ := hx.2.2.2.2.1 j hj
  rw [hpl_i]
  refine aw_go 3 25 [some (.ref 0), some (.int (nI j)), some (.int (nI k))] [.int (nI k), .ref 10, .int (nI i)] (moH lf rt nx sz hg nu hd (nI n) nm le (nI ns) pl wa tx (nI L) ou (nI no) wd ws tw tg o1 s1 atp F FP pS pF pT pL op it isz wh dn wk me 0 ot) rfl ?_
  refine aw_ialdN rfl rfl ⟨by omega, by omega⟩ ?_
  obtain ⟨i2, hi2, hpl_i2, ht_i2⟩ := hx.2.2.2.2.1 k hk
  rw [hpl_i2]
  refine aw_cmp_ne rfl (fun h26 => ?_) (fun h26 => absurd (by rw [← ht_i, ← ht_i2, nI_inj (by omega) (by omega) h26]) he)
  refine aw_go 1 34 [some (.ref 0), some (.int (nI j)), some (.int (nI k))] [.int 0] (moH lf rt nx sz hg nu hd (nI n) nm le (nI ns) pl wa tx (nI L) ou (nI no) wd ws tw tg o1 s1 atp F FP pS pF pT pL op it isz wh dn wk me 0 ot) rfl ?_
  exact aw_iret rfl (by decide) rfl ⟨rfl, m_mk hx⟩ rfl (Nat.le_refl _) (Nat.le_refl _) -- [.int 0] (moH lf rt nx sz hg nu hd (nI n) nm le (nI ns) pl wa tx (nI L) ou (nI no) wd ws tw tg o1 s1 atp F FP pS pF pT pL op it isz wh dn wk me 0 ot)
set_option maxHeartbeats 2000000 in
set_option maxRecDepth 100000 in
theorem c_Mo_same_n (l : Launch) (lf rt nx sz hg : Nat → Int32) (nu : Nat → Int64) (hd nm le pl wa tx ou wd : Nat → Int32) (ws : Int32) (tw : Nat → Int32) (tg : Int32) (o1 : Nat → Int32) (s1 atp : Int32) (pS pF pT pL : Nat → Int32) (op : Int32) (it : Nat → Int32) (isz wh dn : Int32) (wk me ot : Nat → Int32) (n ns no : Nat) (t : Nat → Tr) (T : Nat → Nat) (L : Nat) (w : Nat → Nat) (P : Nat → Tr) (F FP : Int32) (O : List Nat) (hx : m_in n ns t lf rt nx hg nu hd nm le pl wa tx ou no T L w P O) (p q : Int32) (hno : ¬ (isP p ∧ isP q)) : Con l y_Mo_same M_Mo_same 1 20 [.ref 0, .int p, .int q] (moH lf rt nx sz hg nu hd (nI n) nm le (nI ns) pl wa tx (nI L) ou (nI no) wd ws tw tg o1 s1 atp F FP pS pF pT pL op it isz wh dn wk me 0 ot) 25 0 0 0 (fun r h' => r = some (.int 0) ∧ m_ok n ns T L w P F FP O h') := by
  refine Con.ent ok_Mo_same (by decide +kernel) rfl ?_
  intro pA eA sA mA argsA belowA methA cA GA μA
  refine aw_go 1 1 [some (.ref 0), some (.int p), some (.int q)] [.int p] (moH lf rt nx sz hg nu hd (nI n) nm le (nI ns) pl wa tx (nI L) ou (nI no) wd ws tw tg o1 s1 atp F FP pS pF pT pL op it isz wh dn wk me 0 ot) rfl ?_
  refine aw_cS [] (c_Mo_isPl l p) rfl cw_Mo_236 rfl rfl rfl rfl (Nat.le_refl _) (Nat.le_refl _) (fun r h' hp => ?_)
  rcases hp with ⟨hp_p, rfl, rfl⟩ | ⟨hp_p, rfl, rfl⟩
  · refine aw_go 0 4 [some (.ref 0), some (.int p), some (.int q)] [.int 1] (moH lf rt nx sz hg nu hd (nI n) nm le (nI ns) pl wa tx (nI L) ou (nI no) wd ws tw tg o1 s1 atp F FP pS pF pT pL op it isz wh dn wk me 0 ot) rfl ?_
    refine aw_if_eq rfl (fun h4 => absurd h4 (by decide)) (fun h4 => ?_)
    refine aw_go 1 8 [some (.ref 0), some (.int p), some (.int q)] [.int q] (moH lf rt nx sz hg nu hd (nI n) nm le (nI ns) pl wa tx (nI L) ou (nI no) wd ws tw tg o1 s1 atp F FP pS pF pT pL op it isz wh dn wk me 0 ot) rfl ?_
    refine aw_cS [] (c_Mo_isPl l q) rfl cw_Mo_236 rfl rfl rfl rfl (Nat.le_refl _) (Nat.le_refl _) (fun r h' hp => ?_)
    rcases hp with ⟨hp_q, rfl, rfl⟩ | ⟨hp_q, rfl, rfl⟩
    · exact absurd ⟨hp_p, hp_q⟩ hno
    · refine aw_go 0 11 [some (.ref 0), some (.int p), some (.int q)] [.int 0] (moH lf rt nx sz hg nu hd (nI n) nm le (nI ns) pl wa tx (nI L) ou (nI no) wd ws tw tg o1 s1 atp F FP pS pF pT pL op it isz wh dn wk me 0 ot) rfl ?_
      refine aw_if_eq rfl (fun h11 => ?_) (fun h11 => absurd h11 (by decide))
      refine aw_go 1 34 [some (.ref 0), some (.int p), some (.int q)] [.int 0] (moH lf rt nx sz hg nu hd (nI n) nm le (nI ns) pl wa tx (nI L) ou (nI no) wd ws tw tg o1 s1 atp F FP pS pF pT pL op it isz wh dn wk me 0 ot) rfl ?_
      exact aw_iret rfl (by decide) rfl ⟨rfl, m_mk hx⟩ rfl (Nat.le_refl _) (Nat.le_refl _) -- [.int 0] (moH lf rt nx sz hg nu hd (nI n) nm le (nI ns) pl wa tx (nI L) ou (nI no) wd ws tw tg o1 s1 atp F FP pS pF pT pL op it isz wh dn wk me 0 ot)
  · refine aw_go 0 4 [some (.ref 0), some (.int p), some (.int q)] [.int 0] (moH lf rt nx sz hg nu hd (nI n) nm le (nI ns) pl wa tx (nI L) ou (nI no) wd ws tw tg o1 s1 atp F FP pS pF pT pL op it isz wh dn wk me 0 ot) rfl ?_
    refine aw_if_eq rfl (fun h4 => ?_) (fun h4 => absurd h4 (by decide))
    refine aw_go 1 34 [some (.ref 0), some (.int p), some (.int q)] [.int 0] (moH lf rt nx sz hg nu hd (nI n) nm le (nI ns) pl wa tx (nI L) ou (nI no) wd ws tw tg o1 s1 atp F FP pS pF pT pL op it isz wh dn wk me 0 ot) rfl ?_
    exact aw_iret rfl (by decide) rfl ⟨rfl, m_mk hx⟩ rfl (Nat.le_refl _) (Nat.le_refl _) -- [.int 0] (moH lf rt nx sz hg nu hd (nI n) nm le (nI ns) pl wa tx (nI L) ou (nI no) wd ws tw tg o1 s1 atp F FP pS pF pT pL op it isz wh dn wk me 0 ot)
set_option maxHeartbeats 2000000 in
set_option maxRecDepth 100000 in
theorem c_Mo_below_y (l : Launch) (lf rt nx sz hg : Nat → Int32) (nu : Nat → Int64) (hd nm le pl wa tx ou wd : Nat → Int32) (ws : Int32) (tw : Nat → Int32) (tg : Int32) (o1 : Nat → Int32) (s1 atp : Int32) (pS pF pT pL : Nat → Int32) (op : Int32) (it : Nat → Int32) (isz wh dn : Int32) (wk me ot : Nat → Int32) (n ns no : Nat) (t : Nat → Tr) (T : Nat → Nat) (L : Nat) (w : Nat → Nat) (P : Nat → Tr) (F FP : Int32) (O : List Nat) (hx : m_in n ns t lf rt nx hg nu hd nm le pl wa tx ou no T L w P O) (j k : Nat) (hj : j < 8) (hk : k < 8) : Con l y_Mo_below M_Mo_below 4 93 [.ref 0, .int (nI j), .int (nI k)] (moH lf rt nx sz hg nu hd (nI n) nm le (nI ns) pl wa tx (nI L) ou (nI no) wd ws tw tg o1 s1 atp F FP pS pF pT pL op it isz wh dn wk me 0 ot) 25 0 0 0 (fun r h' => r = some (.int (rb (tl_lw (tlb (P j) false) (tlb (P k) false) 200 0))) ∧ m_ok n ns T L w P F FP O h') := by
  have h16n := hx.1.n16
  refine Con.ent ok_Mo_below (by decide +kernel) rfl ?_
  intro pA eA sA mA argsA belowA methA cA GA μA
  refine aw_go 1 1 [some (.ref 0), some (.int (nI j)), some (.int (nI k))] [.int (nI j)] (moH lf rt nx sz hg nu hd (nI n) nm le (nI ns) pl wa tx (nI L) ou (nI no) wd ws tw tg o1 s1 atp F FP pS pF pT pL op it isz wh dn wk me 0 ot) rfl ?_
  refine aw_cS [] (c_Mo_isP1 l j hj) rfl cw_Mo_236 rfl rfl rfl rfl (Nat.le_refl _) (Nat.le_refl _) (fun r h' hp => ?_)
  obtain ⟨rfl, rfl⟩ := hp
  refine aw_go 0 4 [some (.ref 0), some (.int (nI j)), some (.int (nI k))] [.int 1] (moH lf rt nx sz hg nu hd (nI n) nm le (nI ns) pl wa tx (nI L) ou (nI no) wd ws tw tg o1 s1 atp F FP pS pF pT pL op it isz wh dn wk me 0 ot) rfl ?_
  refine aw_if_eq rfl (fun h4 => absurd h4 (by decide)) (fun h4 => ?_)
  refine aw_go 1 8 [some (.ref 0), some (.int (nI j)), some (.int (nI k))] [.int (nI k)] (moH lf rt nx sz hg nu hd (nI n) nm le (nI ns) pl wa tx (nI L) ou (nI no) wd ws tw tg o1 s1 atp F FP pS pF pT pL op it isz wh dn wk me 0 ot) rfl ?_
  refine aw_cS [] (c_Mo_isP1 l k hk) rfl cw_Mo_236 rfl rfl rfl rfl (Nat.le_refl _) (Nat.le_refl _) (fun r h' hp => ?_)
  obtain ⟨rfl, rfl⟩ := hp
  refine aw_go 0 11 [some (.ref 0), some (.int (nI j)), some (.int (nI k))] [.int 1] (moH lf rt nx sz hg nu hd (nI n) nm le (nI ns) pl wa tx (nI L) ou (nI no) wd ws tw tg o1 s1 atp F FP pS pF pT pL op it isz wh dn wk me 0 ot) rfl ?_
  refine aw_if_eq rfl (fun h11 => absurd h11 (by decide)) (fun h11 => ?_)
  refine aw_go 4 20 [some (.ref 0), some (.int (nI j)), some (.int (nI k))] [.int (nI j), .ref 10, .ref 0] (moH lf rt nx sz hg nu hd (nI n) nm le (nI ns) pl wa tx (nI L) ou (nI no) wd ws tw tg o1 s1 atp F FP pS pF pT pL op it isz wh dn wk me 0 ot) rfl ?_
  refine aw_ialdN rfl rfl ⟨by omega, by omega⟩ ?_
  obtain ⟨i, hi, hpl_i, ht_i⟩ := hx.2.2.2.2.1 j hj
  rw [hpl_i]
  refine aw_go 3 26 [some (.ref 0), some (.int (nI j)), some (.int (nI k))] [.int (nI k), .ref 10, .int (nI i), .ref 0] (moH lf rt nx sz hg nu hd (nI n) nm le (nI ns) pl wa tx (nI L) ou (nI no) wd ws tw tg o1 s1 atp F FP pS pF pT pL op it isz wh dn wk me 0 ot) rfl ?_
  refine aw_ialdN rfl rfl ⟨by omega, by omega⟩ ?_
  obtain ⟨i2, hi2, hpl_i2, ht_i2⟩ := hx.2.2.2.2.1 k hk
  rw [hpl_i2]
  refine aw_cV [0, 1, 2, 3, 4, 5, 6, 7, 8, 9, 10, 11, 12, 13, 14, 15, 16, 17, 18, 19, 20, 21, 22, 23, 24] (c_Mo_isSmaller l lf rt nx sz hg nu hd nm le pl wa tx (nI L) ou (nI no) wd ws tw tg o1 s1 atp F FP pS pF pT pL op it isz wh dn wk me 0 ot n ns t hx.1 i i2 hi hi2 hx.2.1) rfl cw_Mo_255 rfl rfl rfl rfl rfl rfl (Nat.le_refl _) (Nat.le_refl _) (fun r h' hp => ?_)
  obtain ⟨rfl, f2, tw2, ot2, s2, tg2, rfl⟩ := hp
  rw [ht_i, ht_i2]
  refine aw_go 0 30 [some (.ref 0), some (.int (nI j)), some (.int (nI k))] [.int (rb (tl_lw (tlb (P j) false) (tlb (P k) false) 200 0))] (moH lf rt nx sz hg nu hd (nI n) nm le (nI ns) pl wa tx (nI L) ou (nI no) wd ws tw2 tg2 f2 s2 atp F FP pS pF pT pL op it isz wh dn wk me 0 ot2) rfl ?_
  refine aw_if_eq rfl (fun h30 => ?_) (fun h30 => ?_)
  · refine aw_go 1 38 [some (.ref 0), some (.int (nI j)), some (.int (nI k))] [.int 0] (moH lf rt nx sz hg nu hd (nI n) nm le (nI ns) pl wa tx (nI L) ou (nI no) wd ws tw2 tg2 f2 s2 atp F FP pS pF pT pL op it isz wh dn wk me 0 ot2) rfl ?_
    exact aw_iret rfl (by decide) rfl ⟨by rw [h30], m_mk hx⟩ rfl (Nat.le_refl _) (Nat.le_refl _) -- [.int 0] (moH lf rt nx sz hg nu hd (nI n) nm le (nI ns) pl wa tx (nI L) ou (nI no) wd ws tw2 tg2 f2 s2 atp F FP pS pF pT pL op it isz wh dn wk me 0 ot2)
  · refine aw_go 2 38 [some (.ref 0), some (.int (nI j)), some (.int (nI k))] [.int 1] (moH lf rt nx sz hg nu hd (nI n) nm le (nI ns) pl wa tx (nI L) ou (nI no) wd ws tw2 tg2 f2 s2 atp F FP pS pF pT pL op it isz wh dn wk me 0 ot2) rfl ?_
    exact aw_iret rfl (by decide) rfl ⟨by rw [rb_n0 h30]; rfl, m_mk hx⟩ rfl (Nat.le_refl _) (Nat.le_refl _) -- [.int 1] (moH lf rt nx sz hg nu hd (nI n) nm le (nI ns) pl wa tx (nI L) ou (nI no) wd ws tw2 tg2 f2 s2 atp F FP pS pF pT pL op it isz wh dn wk me 0 ot2)
set_option maxHeartbeats 2000000 in
set_option maxRecDepth 100000 in
theorem c_Mo_below_n (l : Launch) (lf rt nx sz hg : Nat → Int32) (nu : Nat → Int64) (hd nm le pl wa tx ou wd : Nat → Int32) (ws : Int32) (tw : Nat → Int32) (tg : Int32) (o1 : Nat → Int32) (s1 atp : Int32) (pS pF pT pL : Nat → Int32) (op : Int32) (it : Nat → Int32) (isz wh dn : Int32) (wk me ot : Nat → Int32) (n ns no : Nat) (t : Nat → Tr) (T : Nat → Nat) (L : Nat) (w : Nat → Nat) (P : Nat → Tr) (F FP : Int32) (O : List Nat) (hx : m_in n ns t lf rt nx hg nu hd nm le pl wa tx ou no T L w P O) (p q : Int32) (hno : ¬ (isP p ∧ isP q)) : Con l y_Mo_below M_Mo_below 4 93 [.ref 0, .int p, .int q] (moH lf rt nx sz hg nu hd (nI n) nm le (nI ns) pl wa tx (nI L) ou (nI no) wd ws tw tg o1 s1 atp F FP pS pF pT pL op it isz wh dn wk me 0 ot) 25 0 0 0 (fun r h' => r = some (.int 0) ∧ m_ok n ns T L w P F FP O h') := by
  refine Con.ent ok_Mo_below (by decide +kernel) rfl ?_
  intro pA eA sA mA argsA belowA methA cA GA μA
  refine aw_go 1 1 [some (.ref 0), some (.int p), some (.int q)] [.int p] (moH lf rt nx sz hg nu hd (nI n) nm le (nI ns) pl wa tx (nI L) ou (nI no) wd ws tw tg o1 s1 atp F FP pS pF pT pL op it isz wh dn wk me 0 ot) rfl ?_
  refine aw_cS [] (c_Mo_isPl l p) rfl cw_Mo_236 rfl rfl rfl rfl (Nat.le_refl _) (Nat.le_refl _) (fun r h' hp => ?_)
  rcases hp with ⟨hp_p, rfl, rfl⟩ | ⟨hp_p, rfl, rfl⟩
  · refine aw_go 0 4 [some (.ref 0), some (.int p), some (.int q)] [.int 1] (moH lf rt nx sz hg nu hd (nI n) nm le (nI ns) pl wa tx (nI L) ou (nI no) wd ws tw tg o1 s1 atp F FP pS pF pT pL op it isz wh dn wk me 0 ot) rfl ?_
    refine aw_if_eq rfl (fun h4 => absurd h4 (by decide)) (fun h4 => ?_)
    refine aw_go 1 8 [some (.ref 0), some (.int p), some (.int q)] [.int q] (moH lf rt nx sz hg nu hd (nI n) nm le (nI ns) pl wa tx (nI L) ou (nI no) wd ws tw tg o1 s1 atp F FP pS pF pT pL op it isz wh dn wk me 0 ot) rfl ?_
    refine aw_cS [] (c_Mo_isPl l q) rfl cw_Mo_236 rfl rfl rfl rfl (Nat.le_refl _) (Nat.le_refl _) (fun r h' hp => ?_)
    rcases hp with ⟨hp_q, rfl, rfl⟩ | ⟨hp_q, rfl, rfl⟩
    · exact absurd ⟨hp_p, hp_q⟩ hno
    · refine aw_go 0 11 [some (.ref 0), some (.int p), some (.int q)] [.int 0] (moH lf rt nx sz hg nu hd (nI n) nm le (nI ns) pl wa tx (nI L) ou (nI no) wd ws tw tg o1 s1 atp F FP pS pF pT pL op it isz wh dn wk me 0 ot) rfl ?_
      refine aw_if_eq rfl (fun h11 => ?_) (fun h11 => absurd h11 (by decide))
      refine aw_go 1 38 [some (.ref 0), some (.int p), some (.int q)] [.int 0] (moH lf rt nx sz hg nu hd (nI n) nm le (nI ns) pl wa tx (nI L) ou (nI no) wd ws tw tg o1 s1 atp F FP pS pF pT pL op it isz wh dn wk me 0 ot) rfl ?_
      exact aw_iret rfl (by decide) rfl ⟨rfl, m_mk hx⟩ rfl (Nat.le_refl _) (Nat.le_refl _) -- [.int 0] (moH lf rt nx sz hg nu hd (nI n) nm le (nI ns) pl wa tx (nI L) ou (nI no) wd ws tw tg o1 s1 atp F FP pS pF pT pL op it isz wh dn wk me 0 ot)
  · refine aw_go 0 4 [some (.ref 0), some (.int p), some (.int q)] [.int 0] (moH lf rt nx sz hg nu hd (nI n) nm le (nI ns) pl wa tx (nI L) ou (nI no) wd ws tw tg o1 s1 atp F FP pS pF pT pL op it isz wh dn wk me 0 ot) rfl ?_
    refine aw_if_eq rfl (fun h4 => ?_) (fun h4 => absurd h4 (by decide))
    refine aw_go 1 38 [some (.ref 0), some (.int p), some (.int q)] [.int 0] (moH lf rt nx sz hg nu hd (nI n) nm le (nI ns) pl wa tx (nI L) ou (nI no) wd ws tw tg o1 s1 atp F FP pS pF pT pL op it isz wh dn wk me 0 ot) rfl ?_
    exact aw_iret rfl (by decide) rfl ⟨rfl, m_mk hx⟩ rfl (Nat.le_refl _) (Nat.le_refl _) -- [.int 0] (moH lf rt nx sz hg nu hd (nI n) nm le (nI ns) pl wa tx (nI L) ou (nI no) wd ws tw tg o1 s1 atp F FP pS pF pT pL op it isz wh dn wk me 0 ot)
set_option maxHeartbeats 2000000 in
set_option maxRecDepth 100000 in
theorem c_Mo_side_0 (l : Launch) (lf rt nx sz hg : Nat → Int32) (nu : Nat → Int64) (hd nm le pl wa tx ou wd : Nat → Int32) (ws : Int32) (tw : Nat → Int32) (tg : Int32) (o1 : Nat → Int32) (s1 atp : Int32) (pS pF pT pL : Nat → Int32) (op : Int32) (it : Nat → Int32) (isz wh dn : Int32) (wk me ot : Nat → Int32) (n ns no : Nat) (t : Nat → Tr) (T : Nat → Nat) (L : Nat) (w : Nat → Nat) (P : Nat → Tr) (F FP : Int32) (O : List Nat) (hx : m_in n ns t lf rt nx hg nu hd nm le pl wa tx ou no T L w P O) (j m : Nat) (hj : j < 8) (hm : m < 8) (A B : Tr) (hT : P j = .op A B) : Con l y_Mo_side M_Mo_side 1 21 [.ref 0, .int (nI j), .int 0, .int (nI m)] (moH lf rt nx sz hg nu hd (nI n) nm le (nI ns) pl wa tx (nI L) ou (nI no) wd ws tw tg o1 s1 atp F FP pS pF pT pL op it isz wh dn wk me 0 ot) 25 0 0 0 (fun r h' => r = some (.int 1) ∧ m_ok n ns T L w (va_up P m A) F FP O h') := by
  have h16n := hx.1.n16
  refine Con.ent ok_Mo_side (by decide +kernel) rfl ?_
  intro pA eA sA mA argsA belowA methA cA GA μA
  refine aw_go 1 1 [some (.ref 0), some (.int (nI j)), some (.int 0), some (.int (nI m))] [.int (nI j)] (moH lf rt nx sz hg nu hd (nI n) nm le (nI ns) pl wa tx (nI L) ou (nI no) wd ws tw tg o1 s1 atp F FP pS pF pT pL op it isz wh dn wk me 0 ot) rfl ?_
  refine aw_cS [] (c_Mo_isP1 l j hj) rfl cw_Mo_236 rfl rfl rfl rfl (Nat.le_refl _) (Nat.le_refl _) (fun r h' hp => ?_)
  obtain ⟨rfl, rfl⟩ := hp
  refine aw_go 0 4 [some (.ref 0), some (.int (nI j)), some (.int 0), some (.int (nI m))] [.int 1] (moH lf rt nx sz hg nu hd (nI n) nm le (nI ns) pl wa tx (nI L) ou (nI no) wd ws tw tg o1 s1 atp F FP pS pF pT pL op it isz wh dn wk me 0 ot) rfl ?_
  refine aw_if_eq rfl (fun h4 => absurd h4 (by decide)) (fun h4 => ?_)
  refine aw_go 1 8 [some (.ref 0), some (.int (nI j)), some (.int 0), some (.int (nI m))] [.int (nI m)] (moH lf rt nx sz hg nu hd (nI n) nm le (nI ns) pl wa tx (nI L) ou (nI no) wd ws tw tg o1 s1 atp F FP pS pF pT pL op it isz wh dn wk me 0 ot) rfl ?_
  refine aw_cS [] (c_Mo_isP1 l m hm) rfl cw_Mo_236 rfl rfl rfl rfl (Nat.le_refl _) (Nat.le_refl _) (fun r h' hp => ?_)
  obtain ⟨rfl, rfl⟩ := hp
  refine aw_go 0 11 [some (.ref 0), some (.int (nI j)), some (.int 0), some (.int (nI m))] [.int 1] (moH lf rt nx sz hg nu hd (nI n) nm le (nI ns) pl wa tx (nI L) ou (nI no) wd ws tw tg o1 s1 atp F FP pS pF pT pL op it isz wh dn wk me 0 ot) rfl ?_
  refine aw_if_eq rfl (fun h11 => absurd h11 (by decide)) (fun h11 => ?_)
  refine aw_go 1 15 [some (.ref 0), some (.int (nI j)), some (.int 0), some (.int (nI m))] [.int 0] (moH lf rt nx sz hg nu hd (nI n) nm le (nI ns) pl wa tx (nI L) ou (nI no) wd ws tw tg o1 s1 atp F FP pS pF pT pL op it isz wh dn wk me 0 ot) rfl ?_
  refine aw_if_lt rfl (fun h15 => absurd h15 (by decide)) (fun h15 => ?_)
  refine aw_go 2 20 [some (.ref 0), some (.int (nI j)), some (.int 0), some (.int (nI m))] [.int 1, .int 0] (moH lf rt nx sz hg nu hd (nI n) nm le (nI ns) pl wa tx (nI L) ou (nI no) wd ws tw tg o1 s1 atp F FP pS pF pT pL op it isz wh dn wk me 0 ot) rfl ?_
  refine aw_cmp_gt rfl (fun h20 => absurd h20 (by decide)) (fun h20 => ?_)
  refine aw_go 4 29 [some (.ref 0), some (.int (nI j)), some (.int 0), some (.int (nI m))] [.int (nI j), .ref 10, .ref 0] (moH lf rt nx sz hg nu hd (nI n) nm le (nI ns) pl wa tx (nI L) ou (nI no) wd ws tw tg o1 s1 atp F FP pS pF pT pL op it isz wh dn wk me 0 ot) rfl ?_
  refine aw_ialdN rfl rfl ⟨by omega, by omega⟩ ?_
  obtain ⟨i, hi, hpl_i, ht_i⟩ := hx.2.2.2.2.1 j hj
  rw [hpl_i]
  obtain ⟨a, b, ha, hb, hlf, hrt, hta, htb⟩ := hx.1.pr hi (by rw [ht_i]; exact hT)
  refine aw_cV [0, 1, 2, 3, 4, 5, 6, 7, 8, 9, 10, 11, 12, 13, 14, 15, 16, 17, 18, 19, 20, 21, 22, 23, 24] (c_Mo_isPair1 l lf rt nx sz hg nu hd nm le pl wa tx (nI L) ou (nI no) wd ws tw tg o1 s1 atp F FP pS pF pT pL op it isz wh dn wk me 0 ot n ns t hx.1 i hi A B (by rw [ht_i]; exact hT)) rfl cw_Mo_215 rfl rfl rfl rfl rfl rfl (Nat.le_refl _) (Nat.le_refl _) (fun r h' hp => ?_)
  obtain ⟨rfl, rfl⟩ := hp
  refine aw_go 0 33 [some (.ref 0), some (.int (nI j)), some (.int 0), some (.int (nI m))] [.int 1] (moH lf rt nx sz hg nu hd (nI n) nm le (nI ns) pl wa tx (nI L) ou (nI no) wd ws tw tg o1 s1 atp F FP pS pF pT pL op it isz wh dn wk me 0 ot) rfl ?_
  refine aw_if_ne rfl (fun h33 => ?_) (fun h33 => absurd h33 (by decide))
  refine aw_go 4 44 [some (.ref 0), some (.int (nI j)), some (.int 0), some (.int (nI m))] [.int 0, .int (nI m), .ref 10] (moH lf rt nx sz hg nu hd (nI n) nm le (nI ns) pl wa tx (nI L) ou (nI no) wd ws tw tg o1 s1 atp F FP pS pF pT pL op it isz wh dn wk me 0 ot) rfl ?_
  refine aw_if_ne rfl (fun h44 => absurd h44 (by decide)) (fun h44 => ?_)
  refine aw_go 5 56 [some (.ref 0), some (.int (nI j)), some (.int 0), some (.int (nI m))] [.int (nI j), .ref 10, .ref 1, .int (nI m), .ref 10] (moH lf rt nx sz hg nu hd (nI n) nm le (nI ns) pl wa tx (nI L) ou (nI no) wd ws tw tg o1 s1 atp F FP pS pF pT pL op it isz wh dn wk me 0 ot) rfl ?_
  refine aw_ialdN rfl rfl ⟨by omega, by omega⟩ ?_
  rw [hpl_i]
  refine aw_ialdN rfl rfl ⟨by omega, by omega⟩ ?_
  refine aw_go 1 72 [some (.ref 0), some (.int (nI j)), some (.int 0), some (.int (nI m))] [.int (lf i), .int (nI m), .ref 10] (moH lf rt nx sz hg nu hd (nI n) nm le (nI ns) pl wa tx (nI L) ou (nI no) wd ws tw tg o1 s1 atp F FP pS pF pT pL op it isz wh dn wk me 0 ot) rfl ?_
  rw [hlf]
  refine aw_iastN rfl rfl ⟨by omega, by omega⟩ ?_
  refine aw_go 1 74 [some (.ref 0), some (.int (nI j)), some (.int 0), some (.int (nI m))] [.int 1] (moH lf rt nx sz hg nu hd (nI n) nm le (nI ns) (upd pl m (nI a)) wa tx (nI L) ou (nI no) wd ws tw tg o1 s1 atp F FP pS pF pT pL op it isz wh dn wk me 0 ot) rfl ?_
  exact aw_iret rfl (by decide) rfl ⟨rfl, m_mk ⟨hx.1, hx.2.1, hx.2.2.1, hx.2.2.2.1, pl_up hx.2.2.2.2.1 ⟨a, by omega, rfl, hta⟩, hx.2.2.2.2.2⟩⟩ rfl (Nat.le_refl _) (Nat.le_refl _) -- [.int 1] (moH lf rt nx sz hg nu hd (nI n) nm le (nI ns) (upd pl m (nI a)) wa tx (nI L) ou (nI no) wd ws tw tg o1 s1 atp F FP pS pF pT pL op it isz wh dn wk me 0 ot)
set_option maxHeartbeats 2000000 in
set_option maxRecDepth 100000 in
theorem c_Mo_side_1 (l : Launch) (lf rt nx sz hg : Nat → Int32) (nu : Nat → Int64) (hd nm le pl wa tx ou wd : Nat → Int32) (ws : Int32) (tw : Nat → Int32) (tg : Int32) (o1 : Nat → Int32) (s1 atp : Int32) (pS pF pT pL : Nat → Int32) (op : Int32) (it : Nat → Int32) (isz wh dn : Int32) (wk me ot : Nat → Int32) (n ns no : Nat) (t : Nat → Tr) (T : Nat → Nat) (L : Nat) (w : Nat → Nat) (P : Nat → Tr) (F FP : Int32) (O : List Nat) (hx : m_in n ns t lf rt nx hg nu hd nm le pl wa tx ou no T L w P O) (j m : Nat) (hj : j < 8) (hm : m < 8) (A B : Tr) (hT : P j = .op A B) : Con l y_Mo_side M_Mo_side 1 21 [.ref 0, .int (nI j), .int 1, .int (nI m)] (moH lf rt nx sz hg nu hd (nI n) nm le (nI ns) pl wa tx (nI L) ou (nI no) wd ws tw tg o1 s1 atp F FP pS pF pT pL op it isz wh dn wk me 0 ot) 25 0 0 0 (fun r h' => r = some (.int 1) ∧ m_ok n ns T L w (va_up P m B) F FP O h') := by
  have h16n := hx.1.n16
  refine Con.ent ok_Mo_side (by decide +kernel) rfl ?_
  intro pA eA sA mA argsA belowA methA cA GA μA
  refine aw_go 1 1 [some (.ref 0), some (.int (nI j)), some (.int 1), some (.int (nI m))] [.int (nI j)] (moH lf rt nx sz hg nu hd (nI n) nm le (nI ns) pl wa tx (nI L) ou (nI no) wd ws tw tg o1 s1 atp F FP pS pF pT pL op it isz wh dn wk me 0 ot) rfl ?_
  refine aw_cS [] (c_Mo_isP1 l j hj) rfl cw_Mo_236 rfl rfl rfl rfl (Nat.le_refl _) (Nat.le_refl _) (fun r h' hp => ?_)
  obtain ⟨rfl, rfl⟩ := hp
  refine aw_go 0 4 [some (.ref 0), some (.int (nI j)), some (.int 1), some (.int (nI m))] [.int 1] (moH lf rt nx sz hg nu hd (nI n) nm le (nI ns) pl wa tx (nI L) ou (nI no) wd ws tw tg o1 s1 atp F FP pS pF pT pL op it isz wh dn wk me 0 ot) rfl ?_
  refine aw_if_eq rfl (fun h4 => absurd h4 (by decide)) (fun h4 => ?_)
  refine aw_go 1 8 [some (.ref 0), some (.int (nI j)), some (.int 1), some (.int (nI m))] [.int (nI m)] (moH lf rt nx sz hg nu hd (nI n) nm le (nI ns) pl wa tx (nI L) ou (nI no) wd ws tw tg o1 s1 atp F FP pS pF pT pL op it isz wh dn wk me 0 ot) rfl ?_
  refine aw_cS [] (c_Mo_isP1 l m hm) rfl cw_Mo_236 rfl rfl rfl rfl (Nat.le_refl _) (Nat.le_refl _) (fun r h' hp => ?_)
  obtain ⟨rfl, rfl⟩ := hp
  refine aw_go 0 11 [some (.ref 0), some (.int (nI j)), some (.int 1), some (.int (nI m))] [.int 1] (moH lf rt nx sz hg nu hd (nI n) nm le (nI ns) pl wa tx (nI L) ou (nI no) wd ws tw tg o1 s1 atp F FP pS pF pT pL op it isz wh dn wk me 0 ot) rfl ?_
  refine aw_if_eq rfl (fun h11 => absurd h11 (by decide)) (fun h11 => ?_)
  refine aw_go 1 15 [some (.ref 0), some (.int (nI j)), some (.int 1), some (.int (nI m))] [.int 1] (moH lf rt nx sz hg nu hd (nI n) nm le (nI ns) pl wa tx (nI L) ou (nI no) wd ws tw tg o1 s1 atp F FP pS pF pT pL op it isz wh dn wk me 0 ot) rfl ?_
  refine aw_if_lt rfl (fun h15 => absurd h15 (by decide)) (fun h15 => ?_)
  refine aw_go 2 20 [some (.ref 0), some (.int (nI j)), some (.int 1), some (.int (nI m))] [.int 1, .int 1] (moH lf rt nx sz hg nu hd (nI n) nm le (nI ns) pl wa tx (nI L) ou (nI no) wd ws tw tg o1 s1 atp F FP pS pF pT pL op it isz wh dn wk me 0 ot) rfl ?_
  refine aw_cmp_gt rfl (fun h20 => absurd h20 (by decide)) (fun h20 => ?_)
  refine aw_go 4 29 [some (.ref 0), some (.int (nI j)), some (.int 1), some (.int (nI m))] [.int (nI j), .ref 10, .ref 0] (moH lf rt nx sz hg nu hd (nI n) nm le (nI ns) pl wa tx (nI L) ou (nI no) wd ws tw tg o1 s1 atp F FP pS pF pT pL op it isz wh dn wk me 0 ot) rfl ?_
  refine aw_ialdN rfl rfl ⟨by omega, by omega⟩ ?_
  obtain ⟨i, hi, hpl_i, ht_i⟩ := hx.2.2.2.2.1 j hj
  rw [hpl_i]
  obtain ⟨a, b, ha, hb, hlf, hrt, hta, htb⟩ := hx.1.pr hi (by rw [ht_i]; exact hT)
  refine aw_cV [0, 1, 2, 3, 4, 5, 6, 7, 8, 9, 10, 11, 12, 13, 14, 15, 16, 17, 18, 19, 20, 21, 22, 23, 24] (c_Mo_isPair1 l lf rt nx sz hg nu hd nm le pl wa tx (nI L) ou (nI no) wd ws tw tg o1 s1 atp F FP pS pF pT pL op it isz wh dn wk me 0 ot n ns t hx.1 i hi A B (by rw [ht_i]; exact hT)) rfl cw_Mo_215 rfl rfl rfl rfl rfl rfl (Nat.le_refl _) (Nat.le_refl _) (fun r h' hp => ?_)
  obtain ⟨rfl, rfl⟩ := hp
  refine aw_go 0 33 [some (.ref 0), some (.int (nI j)), some (.int 1), some (.int (nI m))] [.int 1] (moH lf rt nx sz hg nu hd (nI n) nm le (nI ns) pl wa tx (nI L) ou (nI no) wd ws tw tg o1 s1 atp F FP pS pF pT pL op it isz wh dn wk me 0 ot) rfl ?_
  refine aw_if_ne rfl (fun h33 => ?_) (fun h33 => absurd h33 (by decide))
  refine aw_go 4 44 [some (.ref 0), some (.int (nI j)), some (.int 1), some (.int (nI m))] [.int 1, .int (nI m), .ref 10] (moH lf rt nx sz hg nu hd (nI n) nm le (nI ns) pl wa tx (nI L) ou (nI no) wd ws tw tg o1 s1 atp F FP pS pF pT pL op it isz wh dn wk me 0 ot) rfl ?_
  refine aw_if_ne rfl (fun h44 => ?_) (fun h44 => absurd h44 (by decide))
  refine aw_go 5 70 [some (.ref 0), some (.int (nI j)), some (.int 1), some (.int (nI m))] [.int (nI j), .ref 10, .ref 2, .int (nI m), .ref 10] (moH lf rt nx sz hg nu hd (nI n) nm le (nI ns) pl wa tx (nI L) ou (nI no) wd ws tw tg o1 s1 atp F FP pS pF pT pL op it isz wh dn wk me 0 ot) rfl ?_
  refine aw_ialdN rfl rfl ⟨by omega, by omega⟩ ?_
  rw [hpl_i]
  refine aw_ialdN rfl rfl ⟨by omega, by omega⟩ ?_
  rw [hrt]
  refine aw_iastN rfl rfl ⟨by omega, by omega⟩ ?_
  refine aw_go 1 74 [some (.ref 0), some (.int (nI j)), some (.int 1), some (.int (nI m))] [.int 1] (moH lf rt nx sz hg nu hd (nI n) nm le (nI ns) (upd pl m (nI b)) wa tx (nI L) ou (nI no) wd ws tw tg o1 s1 atp F FP pS pF pT pL op it isz wh dn wk me 0 ot) rfl ?_
  exact aw_iret rfl (by decide) rfl ⟨rfl, m_mk ⟨hx.1, hx.2.1, hx.2.2.1, hx.2.2.2.1, pl_up hx.2.2.2.2.1 ⟨b, by omega, rfl, htb⟩, hx.2.2.2.2.2⟩⟩ rfl (Nat.le_refl _) (Nat.le_refl _) -- [.int 1] (moH lf rt nx sz hg nu hd (nI n) nm le (nI ns) (upd pl m (nI b)) wa tx (nI L) ou (nI no) wd ws tw tg o1 s1 atp F FP pS pF pT pL op it isz wh dn wk me 0 ot)
set_option maxHeartbeats 2000000 in
set_option maxRecDepth 100000 in
theorem c_Mo_side_n (l : Launch) (lf rt nx sz hg : Nat → Int32) (nu : Nat → Int64) (hd nm le pl wa tx ou wd : Nat → Int32) (ws : Int32) (tw : Nat → Int32) (tg : Int32) (o1 : Nat → Int32) (s1 atp : Int32) (pS pF pT pL : Nat → Int32) (op : Int32) (it : Nat → Int32) (isz wh dn : Int32) (wk me ot : Nat → Int32) (n ns no : Nat) (t : Nat → Tr) (T : Nat → Nat) (L : Nat) (w : Nat → Nat) (P : Nat → Tr) (F FP : Int32) (O : List Nat) (hx : m_in n ns t lf rt nx hg nu hd nm le pl wa tx ou no T L w P O) (p x q : Int32) (hno : ¬ (isP p ∧ isP q)) : Con l y_Mo_side M_Mo_side 1 21 [.ref 0, .int p, .int x, .int q] (moH lf rt nx sz hg nu hd (nI n) nm le (nI ns) pl wa tx (nI L) ou (nI no) wd ws tw tg o1 s1 atp F FP pS pF pT pL op it isz wh dn wk me 0 ot) 25 0 0 0 (fun r h' => r = some (.int 0) ∧ m_ok n ns T L w P F FP O h') := by
  refine Con.ent ok_Mo_side (by decide +kernel) rfl ?_
  intro pA eA sA mA argsA belowA methA cA GA μA
  refine aw_go 1 1 [some (.ref 0), some (.int p), some (.int x), some (.int q)] [.int p] (moH lf rt nx sz hg nu hd (nI n) nm le (nI ns) pl wa tx (nI L) ou (nI no) wd ws tw tg o1 s1 atp F FP pS pF pT pL op it isz wh dn wk me 0 ot) rfl ?_
  refine aw_cS [] (c_Mo_isPl l p) rfl cw_Mo_236 rfl rfl rfl rfl (Nat.le_refl _) (Nat.le_refl _) (fun r h' hp => ?_)
  rcases hp with ⟨hp_p, rfl, rfl⟩ | ⟨hp_p, rfl, rfl⟩
  · refine aw_go 0 4 [some (.ref 0), some (.int p), some (.int x), some (.int q)] [.int 1] (moH lf rt nx sz hg nu hd (nI n) nm le (nI ns) pl wa tx (nI L) ou (nI no) wd ws tw tg o1 s1 atp F FP pS pF pT pL op it isz wh dn wk me 0 ot) rfl ?_
    refine aw_if_eq rfl (fun h4 => absurd h4 (by decide)) (fun h4 => ?_)
    refine aw_go 1 8 [some (.ref 0), some (.int p), some (.int x), some (.int q)] [.int q] (moH lf rt nx sz hg nu hd (nI n) nm le (nI ns) pl wa tx (nI L) ou (nI no) wd ws tw tg o1 s1 atp F FP pS pF pT pL op it isz wh dn wk me 0 ot) rfl ?_
    refine aw_cS [] (c_Mo_isPl l q) rfl cw_Mo_236 rfl rfl rfl rfl (Nat.le_refl _) (Nat.le_refl _) (fun r h' hp => ?_)
    rcases hp with ⟨hp_q, rfl, rfl⟩ | ⟨hp_q, rfl, rfl⟩
    · exact absurd ⟨hp_p, hp_q⟩ hno
    · refine aw_go 0 11 [some (.ref 0), some (.int p), some (.int x), some (.int q)] [.int 0] (moH lf rt nx sz hg nu hd (nI n) nm le (nI ns) pl wa tx (nI L) ou (nI no) wd ws tw tg o1 s1 atp F FP pS pF pT pL op it isz wh dn wk me 0 ot) rfl ?_
      refine aw_if_eq rfl (fun h11 => ?_) (fun h11 => absurd h11 (by decide))
      refine aw_go 1 37 [some (.ref 0), some (.int p), some (.int x), some (.int q)] [.int 0] (moH lf rt nx sz hg nu hd (nI n) nm le (nI ns) pl wa tx (nI L) ou (nI no) wd ws tw tg o1 s1 atp F FP pS pF pT pL op it isz wh dn wk me 0 ot) rfl ?_
      exact aw_iret rfl (by decide) rfl ⟨rfl, m_mk hx⟩ rfl (Nat.le_refl _) (Nat.le_refl _) -- [.int 0] (moH lf rt nx sz hg nu hd (nI n) nm le (nI ns) pl wa tx (nI L) ou (nI no) wd ws tw tg o1 s1 atp F FP pS pF pT pL op it isz wh dn wk me 0 ot)
  · refine aw_go 0 4 [some (.ref 0), some (.int p), some (.int x), some (.int q)] [.int 0] (moH lf rt nx sz hg nu hd (nI n) nm le (nI ns) pl wa tx (nI L) ou (nI no) wd ws tw tg o1 s1 atp F FP pS pF pT pL op it isz wh dn wk me 0 ot) rfl ?_
    refine aw_if_eq rfl (fun h4 => ?_) (fun h4 => absurd h4 (by decide))
    refine aw_go 1 37 [some (.ref 0), some (.int p), some (.int x), some (.int q)] [.int 0] (moH lf rt nx sz hg nu hd (nI n) nm le (nI ns) pl wa tx (nI L) ou (nI no) wd ws tw tg o1 s1 atp F FP pS pF pT pL op it isz wh dn wk me 0 ot) rfl ?_
    exact aw_iret rfl (by decide) rfl ⟨rfl, m_mk hx⟩ rfl (Nat.le_refl _) (Nat.le_refl _) -- [.int 0] (moH lf rt nx sz hg nu hd (nI n) nm le (nI ns) pl wa tx (nI L) ou (nI no) wd ws tw tg o1 s1 atp F FP pS pF pT pL op it isz wh dn wk me 0 ot)
set_option maxHeartbeats 2000000 in
set_option maxRecDepth 100000 in
theorem c_Mo_side_w (l : Launch) (lf rt nx sz hg : Nat → Int32) (nu : Nat → Int64) (hd nm le pl wa tx ou wd : Nat → Int32) (ws : Int32) (tw : Nat → Int32) (tg : Int32) (o1 : Nat → Int32) (s1 atp : Int32) (pS pF pT pL : Nat → Int32) (op : Int32) (it : Nat → Int32) (isz wh dn : Int32) (wk me ot : Nat → Int32) (n ns no : Nat) (t : Nat → Tr) (T : Nat → Nat) (L : Nat) (w : Nat → Nat) (P : Nat → Tr) (F FP : Int32) (O : List Nat) (hx : m_in n ns t lf rt nx hg nu hd nm le pl wa tx ou no T L w P O) (j m : Nat) (hj : j < 8) (hm : m < 8) (x : Int32) (h0 : x ≠ 0) (h1 : x ≠ 1) : Con l y_Mo_side M_Mo_side 1 21 [.ref 0, .int (nI j), .int x, .int (nI m)] (moH lf rt nx sz hg nu hd (nI n) nm le (nI ns) pl wa tx (nI L) ou (nI no) wd ws tw tg o1 s1 atp F FP pS pF pT pL op it isz wh dn wk me 0 ot) 25 0 0 0 (fun r h' => r = some (.int 0) ∧ m_ok n ns T L w P F FP O h') := by
  refine Con.ent ok_Mo_side (by decide +kernel) rfl ?_
  intro pA eA sA mA argsA belowA methA cA GA μA
  refine aw_go 1 1 [some (.ref 0), some (.int (nI j)), some (.int x), some (.int (nI m))] [.int (nI j)] (moH lf rt nx sz hg nu hd (nI n) nm le (nI ns) pl wa tx (nI L) ou (nI no) wd ws tw tg o1 s1 atp F FP pS pF pT pL op it isz wh dn wk me 0 ot) rfl ?_
  refine aw_cS [] (c_Mo_isP1 l j hj) rfl cw_Mo_236 rfl rfl rfl rfl (Nat.le_refl _) (Nat.le_refl _) (fun r h' hp => ?_)
  obtain ⟨rfl, rfl⟩ := hp
  refine aw_go 0 4 [some (.ref 0), some (.int (nI j)), some (.int x), some (.int (nI m))] [.int 1] (moH lf rt nx sz hg nu hd (nI n) nm le (nI ns) pl wa tx (nI L) ou (nI no) wd ws tw tg o1 s1 atp F FP pS pF pT pL op it isz wh dn wk me 0 ot) rfl ?_
  refine aw_if_eq rfl (fun h4 => absurd h4 (by decide)) (fun h4 => ?_)
  refine aw_go 1 8 [some (.ref 0), some (.int (nI j)), some (.int x), some (.int (nI m))] [.int (nI m)] (moH lf rt nx sz hg nu hd (nI n) nm le (nI ns) pl wa tx (nI L) ou (nI no) wd ws tw tg o1 s1 atp F FP pS pF pT pL op it isz wh dn wk me 0 ot) rfl ?_
  refine aw_cS [] (c_Mo_isP1 l m hm) rfl cw_Mo_236 rfl rfl rfl rfl (Nat.le_refl _) (Nat.le_refl _) (fun r h' hp => ?_)
  obtain ⟨rfl, rfl⟩ := hp
  refine aw_go 0 11 [some (.ref 0), some (.int (nI j)), some (.int x), some (.int (nI m))] [.int 1] (moH lf rt nx sz hg nu hd (nI n) nm le (nI ns) pl wa tx (nI L) ou (nI no) wd ws tw tg o1 s1 atp F FP pS pF pT pL op it isz wh dn wk me 0 ot) rfl ?_
  refine aw_if_eq rfl (fun h11 => absurd h11 (by decide)) (fun h11 => ?_)
  refine aw_go 1 15 [some (.ref 0), some (.int (nI j)), some (.int x), some (.int (nI m))] [.int x] (moH lf rt nx sz hg nu hd (nI n) nm le (nI ns) pl wa tx (nI L) ou (nI no) wd ws tw tg o1 s1 atp F FP pS pF pT pL op it isz wh dn wk me 0 ot) rfl ?_
  refine aw_if_lt rfl (fun h15 => ?_) (fun h15 => ?_)
  · refine aw_go 1 37 [some (.ref 0), some (.int (nI j)), some (.int x), some (.int (nI m))] [.int 0] (moH lf rt nx sz hg nu hd (nI n) nm le (nI ns) pl wa tx (nI L) ou (nI no) wd ws tw tg o1 s1 atp F FP pS pF pT pL op it isz wh dn wk me 0 ot) rfl ?_
    exact aw_iret rfl (by decide) rfl ⟨rfl, m_mk hx⟩ rfl (Nat.le_refl _) (Nat.le_refl _) -- [.int 0] (moH lf rt nx sz hg nu hd (nI n) nm le (nI ns) pl wa tx (nI L) ou (nI no) wd ws tw tg o1 s1 atp F FP pS pF pT pL op it isz wh dn wk me 0 ot)
  · refine aw_go 2 20 [some (.ref 0), some (.int (nI j)), some (.int x), some (.int (nI m))] [.int 1, .int x] (moH lf rt nx sz hg nu hd (nI n) nm le (nI ns) pl wa tx (nI L) ou (nI no) wd ws tw tg o1 s1 atp F FP pS pF pT pL op it isz wh dn wk me 0 ot) rfl ?_
    refine aw_cmp_gt rfl (fun h20 => ?_) (fun h20 => absurd (sd_w h0 h1 h15) h20)
    refine aw_go 1 37 [some (.ref 0), some (.int (nI j)), some (.int x), some (.int (nI m))] [.int 0] (moH lf rt nx sz hg nu hd (nI n) nm le (nI ns) pl wa tx (nI L) ou (nI no) wd ws tw tg o1 s1 atp F FP pS pF pT pL op it isz wh dn wk me 0 ot) rfl ?_
    exact aw_iret rfl (by decide) rfl ⟨rfl, m_mk hx⟩ rfl (Nat.le_refl _) (Nat.le_refl _) -- [.int 0] (moH lf rt nx sz hg nu hd (nI n) nm le (nI ns) pl wa tx (nI L) ou (nI no) wd ws tw tg o1 s1 atp F FP pS pF pT pL op it isz wh dn wk me 0 ot)
set_option maxHeartbeats 2000000 in
set_option maxRecDepth 100000 in
theorem c_Mo_side_a (l : Launch) (lf rt nx sz hg : Nat → Int32) (nu : Nat → Int64) (hd nm le pl wa tx ou wd : Nat → Int32) (ws : Int32) (tw : Nat → Int32) (tg : Int32) (o1 : Nat → Int32) (s1 atp : Int32) (pS pF pT pL : Nat → Int32) (op : Int32) (it : Nat → Int32) (isz wh dn : Int32) (wk me ot : Nat → Int32) (n ns no : Nat) (t : Nat → Tr) (T : Nat → Nat) (L : Nat) (w : Nat → Nat) (P : Nat → Tr) (F FP : Int32) (O : List Nat) (hx : m_in n ns t lf rt nx hg nu hd nm le pl wa tx ou no T L w P O) (j m : Nat) (hj : j < 8) (hm : m < 8) (x : Int32) (c : Nat) (hT : P j = .var c) : Con l y_Mo_side M_Mo_side 1 21 [.ref 0, .int (nI j), .int x, .int (nI m)] (moH lf rt nx sz hg nu hd (nI n) nm le (nI ns) pl wa tx (nI L) ou (nI no) wd ws tw tg o1 s1 atp F FP pS pF pT pL op it isz wh dn wk me 0 ot) 25 0 0 0 (fun r h' => r = some (.int 0) ∧ m_ok n ns T L w P F FP O h') := by
  have h16n := hx.1.n16
  refine Con.ent ok_Mo_side (by decide +kernel) rfl ?_
  intro pA eA sA mA argsA belowA methA cA GA μA
  refine aw_go 1 1 [some (.ref 0), some (.int (nI j)), some (.int x), some (.int (nI m))] [.int (nI j)] (moH lf rt nx sz hg nu hd (nI n) nm le (nI ns) pl wa tx (nI L) ou (nI no) wd ws tw tg o1 s1 atp F FP pS pF pT pL op it isz wh dn wk me 0 ot) rfl ?_
  refine aw_cS [] (c_Mo_isP1 l j hj) rfl cw_Mo_236 rfl rfl rfl rfl (Nat.le_refl _) (Nat.le_refl _) (fun r h' hp => ?_)
  obtain ⟨rfl, rfl⟩ := hp
  refine aw_go 0 4 [some (.ref 0), some (.int (nI j)), some (.int x), some (.int (nI m))] [.int 1] (moH lf rt nx sz hg nu hd (nI n) nm le (nI ns) pl wa tx (nI L) ou (nI no) wd ws tw tg o1 s1 atp F FP pS pF pT pL op it isz wh dn wk me 0 ot) rfl ?_
  refine aw_if_eq rfl (fun h4 => absurd h4 (by decide)) (fun h4 => ?_)
  refine aw_go 1 8 [some (.ref 0), some (.int (nI j)), some (.int x), some (.int (nI m))] [.int (nI m)] (moH lf rt nx sz hg nu hd (nI n) nm le (nI ns) pl wa tx (nI L) ou (nI no) wd ws tw tg o1 s1 atp F FP pS pF pT pL op it isz wh dn wk me 0 ot) rfl ?_
  refine aw_cS [] (c_Mo_isP1 l m hm) rfl cw_Mo_236 rfl rfl rfl rfl (Nat.le_refl _) (Nat.le_refl _) (fun r h' hp => ?_)
  obtain ⟨rfl, rfl⟩ := hp
  refine aw_go 0 11 [some (.ref 0), some (.int (nI j)), some (.int x), some (.int (nI m))] [.int 1] (moH lf rt nx sz hg nu hd (nI n) nm le (nI ns) pl wa tx (nI L) ou (nI no) wd ws tw tg o1 s1 atp F FP pS pF pT pL op it isz wh dn wk me 0 ot) rfl ?_
  refine aw_if_eq rfl (fun h11 => absurd h11 (by decide)) (fun h11 => ?_)
  refine aw_go 1 15 [some (.ref 0), some (.int (nI j)), some (.int x), some (.int (nI m))] [.int x] (moH lf rt nx sz hg nu hd (nI n) nm le (nI ns) pl wa tx (nI L) ou (nI no) wd ws tw tg o1 s1 atp F FP pS pF pT pL op it isz wh dn wk me 0 ot) rfl ?_
  refine aw_if_lt rfl (fun h15 => ?_) (fun h15 => ?_)
  · refine aw_go 1 37 [some (.ref 0), some (.int (nI j)), some (.int x), some (.int (nI m))] [.int 0] (moH lf rt nx sz hg nu hd (nI n) nm le (nI ns) pl wa tx (nI L) ou (nI no) wd ws tw tg o1 s1 atp F FP pS pF pT pL op it isz wh dn wk me 0 ot) rfl ?_
    exact aw_iret rfl (by decide) rfl ⟨rfl, m_mk hx⟩ rfl (Nat.le_refl _) (Nat.le_refl _) -- [.int 0] (moH lf rt nx sz hg nu hd (nI n) nm le (nI ns) pl wa tx (nI L) ou (nI no) wd ws tw tg o1 s1 atp F FP pS pF pT pL op it isz wh dn wk me 0 ot)
  · refine aw_go 2 20 [some (.ref 0), some (.int (nI j)), some (.int x), some (.int (nI m))] [.int 1, .int x] (moH lf rt nx sz hg nu hd (nI n) nm le (nI ns) pl wa tx (nI L) ou (nI no) wd ws tw tg o1 s1 atp F FP pS pF pT pL op it isz wh dn wk me 0 ot) rfl ?_
    refine aw_cmp_gt rfl (fun h20 => ?_) (fun h20 => ?_)
    · refine aw_go 1 37 [some (.ref 0), some (.int (nI j)), some (.int x), some (.int (nI m))] [.int 0] (moH lf rt nx sz hg nu hd (nI n) nm le (nI ns) pl wa tx (nI L) ou (nI no) wd ws tw tg o1 s1 atp F FP pS pF pT pL op it isz wh dn wk me 0 ot) rfl ?_
      exact aw_iret rfl (by decide) rfl ⟨rfl, m_mk hx⟩ rfl (Nat.le_refl _) (Nat.le_refl _) -- [.int 0] (moH lf rt nx sz hg nu hd (nI n) nm le (nI ns) pl wa tx (nI L) ou (nI no) wd ws tw tg o1 s1 atp F FP pS pF pT pL op it isz wh dn wk me 0 ot)
    · refine aw_go 4 29 [some (.ref 0), some (.int (nI j)), some (.int x), some (.int (nI m))] [.int (nI j), .ref 10, .ref 0] (moH lf rt nx sz hg nu hd (nI n) nm le (nI ns) pl wa tx (nI L) ou (nI no) wd ws tw tg o1 s1 atp F FP pS pF pT pL op it isz wh dn wk me 0 ot) rfl ?_
      refine aw_ialdN rfl rfl ⟨by omega, by omega⟩ ?_
      obtain ⟨i, hi, hpl_i, ht_i⟩ := hx.2.2.2.2.1 j hj
      rw [hpl_i]
      refine aw_cV [0, 1, 2, 3, 4, 5, 6, 7, 8, 9, 10, 11, 12, 13, 14, 15, 16, 17, 18, 19, 20, 21, 22, 23, 24] (c_Mo_isPair0 l lf rt nx sz hg nu hd nm le pl wa tx (nI L) ou (nI no) wd ws tw tg o1 s1 atp F FP pS pF pT pL op it isz wh dn wk me 0 ot n ns t hx.1 i hi c (by rw [ht_i]; exact hT)) rfl cw_Mo_215 rfl rfl rfl rfl rfl rfl (Nat.le_refl _) (Nat.le_refl _) (fun r h' hp => ?_)
      obtain ⟨rfl, rfl⟩ := hp
      refine aw_go 0 33 [some (.ref 0), some (.int (nI j)), some (.int x), some (.int (nI m))] [.int 0] (moH lf rt nx sz hg nu hd (nI n) nm le (nI ns) pl wa tx (nI L) ou (nI no) wd ws tw tg o1 s1 atp F FP pS pF pT pL op it isz wh dn wk me 0 ot) rfl ?_
      refine aw_if_ne rfl (fun h33 => absurd h33 (by decide)) (fun h33 => ?_)
      refine aw_go 1 37 [some (.ref 0), some (.int (nI j)), some (.int x), some (.int (nI m))] [.int 0] (moH lf rt nx sz hg nu hd (nI n) nm le (nI ns) pl wa tx (nI L) ou (nI no) wd ws tw tg o1 s1 atp F FP pS pF pT pL op it isz wh dn wk me 0 ot) rfl ?_
      exact aw_iret rfl (by decide) rfl ⟨rfl, m_mk hx⟩ rfl (Nat.le_refl _) (Nat.le_refl _) -- [.int 0] (moH lf rt nx sz hg nu hd (nI n) nm le (nI ns) pl wa tx (nI L) ou (nI no) wd ws tw tg o1 s1 atp F FP pS pF pT pL op it isz wh dn wk me 0 ot)
set_option maxHeartbeats 2000000 in
set_option maxRecDepth 100000 in
theorem c_Mo_cons_y (l : Launch) (lf rt nx sz hg : Nat → Int32) (nu : Nat → Int64) (hd nm le pl wa tx ou wd : Nat → Int32) (ws : Int32) (tw : Nat → Int32) (tg : Int32) (o1 : Nat → Int32) (s1 atp : Int32) (pS pF pT pL : Nat → Int32) (op : Int32) (it : Nat → Int32) (isz wh dn : Int32) (wk me ot : Nat → Int32) (n ns no : Nat) (t : Nat → Tr) (T : Nat → Nat) (L : Nat) (w : Nat → Nat) (P : Nat → Tr) (F FP : Int32) (O : List Nat) (hx : m_in n ns t lf rt nx hg nu hd nm le pl wa tx ou no T L w P O) (j k m : Nat) (hj : j < 8) (hk : k < 8) (hm : m < 8) (hn : n < 16000) : Con l y_Mo_cons M_Mo_cons 2 47 [.ref 0, .int (nI j), .int (nI k), .int (nI m)] (moH lf rt nx sz hg nu hd (nI n) nm le (nI ns) pl wa tx (nI L) ou (nI no) wd ws tw tg o1 s1 atp F FP pS pF pT pL op it isz wh dn wk me 0 ot) 25 0 0 0 (fun r h' => r = some (.int 1) ∧ ∃ n2, n ≤ n2 ∧ n2 ≤ n + 1 ∧ m_ok n2 ns T L w (va_up P m (.op (P j) (P k))) F FP O h') := by
  have h16n := hx.1.n16
  refine Con.ent ok_Mo_cons (by decide +kernel) rfl ?_
  intro pA eA sA mA argsA belowA methA cA GA μA
  refine aw_go 1 1 [some (.ref 0), some (.int (nI j)), some (.int (nI k)), some (.int (nI m))] [.int (nI j)] (moH lf rt nx sz hg nu hd (nI n) nm le (nI ns) pl wa tx (nI L) ou (nI no) wd ws tw tg o1 s1 atp F FP pS pF pT pL op it isz wh dn wk me 0 ot) rfl ?_
  refine aw_cS [] (c_Mo_isP1 l j hj) rfl cw_Mo_236 rfl rfl rfl rfl (Nat.le_refl _) (Nat.le_refl _) (fun r h' hp => ?_)
  obtain ⟨rfl, rfl⟩ := hp
  refine aw_go 0 4 [some (.ref 0), some (.int (nI j)), some (.int (nI k)), some (.int (nI m))] [.int 1] (moH lf rt nx sz hg nu hd (nI n) nm le (nI ns) pl wa tx (nI L) ou (nI no) wd ws tw tg o1 s1 atp F FP pS pF pT pL op it isz wh dn wk me 0 ot) rfl ?_
  refine aw_if_eq rfl (fun h4 => absurd h4 (by decide)) (fun h4 => ?_)
  refine aw_go 1 8 [some (.ref 0), some (.int (nI j)), some (.int (nI k)), some (.int (nI m))] [.int (nI k)] (moH lf rt nx sz hg nu hd (nI n) nm le (nI ns) pl wa tx (nI L) ou (nI no) wd ws tw tg o1 s1 atp F FP pS pF pT pL op it isz wh dn wk me 0 ot) rfl ?_
  refine aw_cS [] (c_Mo_isP1 l k hk) rfl cw_Mo_236 rfl rfl rfl rfl (Nat.le_refl _) (Nat.le_refl _) (fun r h' hp => ?_)
  obtain ⟨rfl, rfl⟩ := hp
  refine aw_go 0 11 [some (.ref 0), some (.int (nI j)), some (.int (nI k)), some (.int (nI m))] [.int 1] (moH lf rt nx sz hg nu hd (nI n) nm le (nI ns) pl wa tx (nI L) ou (nI no) wd ws tw tg o1 s1 atp F FP pS pF pT pL op it isz wh dn wk me 0 ot) rfl ?_
  refine aw_if_eq rfl (fun h11 => absurd h11 (by decide)) (fun h11 => ?_)
  refine aw_go 1 15 [some (.ref 0), some (.int (nI j)), some (.int (nI k)), some (.int (nI m))] [.int (nI m)] (moH lf rt nx sz hg nu hd (nI n) nm le (nI ns) pl wa tx (nI L) ou (nI no) wd ws tw tg o1 s1 atp F FP pS pF pT pL op it isz wh dn wk me 0 ot) rfl ?_
  refine aw_cS [] (c_Mo_isP1 l m hm) rfl cw_Mo_236 rfl rfl rfl rfl (Nat.le_refl _) (Nat.le_refl _) (fun r h' hp => ?_)
  obtain ⟨rfl, rfl⟩ := hp
  refine aw_go 0 18 [some (.ref 0), some (.int (nI j)), some (.int (nI k)), some (.int (nI m))] [.int 1] (moH lf rt nx sz hg nu hd (nI n) nm le (nI ns) pl wa tx (nI L) ou (nI no) wd ws tw tg o1 s1 atp F FP pS pF pT pL op it isz wh dn wk me 0 ot) rfl ?_
  refine aw_if_ne rfl (fun h18 => ?_) (fun h18 => absurd h18 (by decide))
  refine aw_go 7 34 [some (.ref 0), some (.int (nI j)), some (.int (nI k)), some (.int (nI m))] [.int (nI j), .ref 10, .ref 0, .int (nI m), .ref 10] (moH lf rt nx sz hg nu hd (nI n) nm le (nI ns) pl wa tx (nI L) ou (nI no) wd ws tw tg o1 s1 atp F FP pS pF pT pL op it isz wh dn wk me 0 ot) rfl ?_
  refine aw_ialdN rfl rfl ⟨by omega, by omega⟩ ?_
  obtain ⟨i, hi, hpl_i, ht_i⟩ := hx.2.2.2.2.1 j hj
  rw [hpl_i]
  refine aw_go 3 40 [some (.ref 0), some (.int (nI j)), some (.int (nI k)), some (.int (nI m))] [.int (nI k), .ref 10, .int (nI i), .ref 0, .int (nI m), .ref 10] (moH lf rt nx sz hg nu hd (nI n) nm le (nI ns) pl wa tx (nI L) ou (nI no) wd ws tw tg o1 s1 atp F FP pS pF pT pL op it isz wh dn wk me 0 ot) rfl ?_
  refine aw_ialdN rfl rfl ⟨by omega, by omega⟩ ?_
  obtain ⟨i2, hi2, hpl_i2, ht_i2⟩ := hx.2.2.2.2.1 k hk
  rw [hpl_i2]
  refine aw_cV [0, 1, 2, 3, 4, 5, 6, 7, 8, 9, 10, 11, 12, 13, 14, 15, 16, 17, 18, 19, 20, 21, 22, 23, 24] (c_Mo_pair l lf rt nx sz hg nu hd nm le pl wa tx (nI L) ou (nI no) wd ws tw tg o1 s1 atp F FP pS pF pT pL op it isz wh dn wk me 0 ot n ns t hx.1 i i2 hi hi2 hn) rfl cw_Mo_127 rfl rfl rfl rfl rfl rfl (Nat.le_refl _) (Nat.le_refl _) (fun r h' hp => ?_)
  obtain ⟨j3, n2, lf2, rt2, nx2, sz2, hg2, hd2, t2, g1, g2, g3, g4, g5, g6, rfl, rfl⟩ := hp
  refine aw_go 0 44 [some (.ref 0), some (.int (nI j)), some (.int (nI k)), some (.int (nI m))] [.int (nI j3), .int (nI m), .ref 10] (moH lf2 rt2 nx2 sz2 hg2 nu hd2 (nI n2) nm le (nI ns) pl wa tx (nI L) ou (nI no) wd ws tw tg o1 s1 atp F FP pS pF pT pL op it isz wh dn wk me 0 ot) rfl ?_
  refine aw_iastN rfl rfl ⟨by omega, by omega⟩ ?_
  refine aw_go 1 46 [some (.ref 0), some (.int (nI j)), some (.int (nI k)), some (.int (nI m))] [.int 1] (moH lf2 rt2 nx2 sz2 hg2 nu hd2 (nI n2) nm le (nI ns) (upd pl m (nI j3)) wa tx (nI L) ou (nI no) wd ws tw tg o1 s1 atp F FP pS pF pT pL op it isz wh dn wk me 0 ot) rfl ?_
  exact aw_iret rfl (by decide) rfl ⟨rfl, n2, g4, g5, m_mk ⟨g1, ⟨by have := hx.2.1.1; omega, by rw [g6 0 (by have := hx.2.1.1; omega)]; exact hx.2.1.2.1, by rw [g6 1 (by have := hx.2.1.1; omega)]; exact hx.2.1.2.2⟩, hx.2.2.1, hx.2.2.2.1, pl_up (pl_ext hx.2.2.2.2.1 g4 g6) ⟨j3, g2, rfl, by rw [g3, ht_i, ht_i2]⟩, hx.2.2.2.2.2⟩⟩ rfl (Nat.le_refl _) (Nat.le_refl _) -- [.int 1] (moH lf2 rt2 nx2 sz2 hg2 nu hd2 (nI n2) nm le (nI ns) (upd pl m (nI j3)) wa tx (nI L) ou (nI no) wd ws tw tg o1 s1 atp F FP pS pF pT pL op it isz wh dn wk me 0 ot)
set_option maxHeartbeats 2000000 in
set_option maxRecDepth 100000 in
theorem c_Mo_cons_n (l : Launch) (lf rt nx sz hg : Nat → Int32) (nu : Nat → Int64) (hd nm le pl wa tx ou wd : Nat → Int32) (ws : Int32) (tw : Nat → Int32) (tg : Int32) (o1 : Nat → Int32) (s1 atp : Int32) (pS pF pT pL : Nat → Int32) (op : Int32) (it : Nat → Int32) (isz wh dn : Int32) (wk me ot : Nat → Int32) (n ns no : Nat) (t : Nat → Tr) (T : Nat → Nat) (L : Nat) (w : Nat → Nat) (P : Nat → Tr) (F FP : Int32) (O : List Nat) (hx : m_in n ns t lf rt nx hg nu hd nm le pl wa tx ou no T L w P O) (p q s : Int32) (hno : ¬ (isP p ∧ isP q ∧ isP s)) : Con l y_Mo_cons M_Mo_cons 2 47 [.ref 0, .int p, .int q, .int s] (moH lf rt nx sz hg nu hd (nI n) nm le (nI ns) pl wa tx (nI L) ou (nI no) wd ws tw tg o1 s1 atp F FP pS pF pT pL op it isz wh dn wk me 0 ot) 25 0 0 0 (fun r h' => r = some (.int 0) ∧ m_ok n ns T L w P F FP O h') := by
  refine Con.ent ok_Mo_cons (by decide +kernel) rfl ?_
  intro pA eA sA mA argsA belowA methA cA GA μA
  refine aw_go 1 1 [some (.ref 0), some (.int p), some (.int q), some (.int s)] [.int p] (moH lf rt nx sz hg nu hd (nI n) nm le (nI ns) pl wa tx (nI L) ou (nI no) wd ws tw tg o1 s1 atp F FP pS pF pT pL op it isz wh dn wk me 0 ot) rfl ?_
  refine aw_cS [] (c_Mo_isPl l p) rfl cw_Mo_236 rfl rfl rfl rfl (Nat.le_refl _) (Nat.le_refl _) (fun r h' hp => ?_)
  rcases hp with ⟨hp_p, rfl, rfl⟩ | ⟨hp_p, rfl, rfl⟩
  · refine aw_go 0 4 [some (.ref 0), some (.int p), some (.int q), some (.int s)] [.int 1] (moH lf rt nx sz hg nu hd (nI n) nm le (nI ns) pl wa tx (nI L) ou (nI no) wd ws tw tg o1 s1 atp F FP pS pF pT pL op it isz wh dn wk me 0 ot) rfl ?_
    refine aw_if_eq rfl (fun h4 => absurd h4 (by decide)) (fun h4 => ?_)
    refine aw_go 1 8 [some (.ref 0), some (.int p), some (.int q), some (.int s)] [.int q] (moH lf rt nx sz hg nu hd (nI n) nm le (nI ns) pl wa tx (nI L) ou (nI no) wd ws tw tg o1 s1 atp F FP pS pF pT pL op it isz wh dn wk me 0 ot) rfl ?_
    refine aw_cS [] (c_Mo_isPl l q) rfl cw_Mo_236 rfl rfl rfl rfl (Nat.le_refl _) (Nat.le_refl _) (fun r h' hp => ?_)
    rcases hp with ⟨hp_q, rfl, rfl⟩ | ⟨hp_q, rfl, rfl⟩
    · refine aw_go 0 11 [some (.ref 0), some (.int p), some (.int q), some (.int s)] [.int 1] (moH lf rt nx sz hg nu hd (nI n) nm le (nI ns) pl wa tx (nI L) ou (nI no) wd ws tw tg o1 s1 atp F FP pS pF pT pL op it isz wh dn wk me 0 ot) rfl ?_
      refine aw_if_eq rfl (fun h11 => absurd h11 (by decide)) (fun h11 => ?_)
      refine aw_go 1 15 [some (.ref 0), some (.int p), some (.int q), some (.int s)] [.int s] (moH lf rt nx sz hg nu hd (nI n) nm le (nI ns) pl wa tx (nI L) ou (nI no) wd ws tw tg o1 s1 atp F FP pS pF pT pL op it isz wh dn wk me 0 ot) rfl ?_
      refine aw_cS [] (c_Mo_isPl l s) rfl cw_Mo_236 rfl rfl rfl rfl (Nat.le_refl _) (Nat.le_refl _) (fun r h' hp => ?_)
      rcases hp with ⟨hp_s, rfl, rfl⟩ | ⟨hp_s, rfl, rfl⟩
      · exact absurd ⟨hp_p, hp_q, hp_s⟩ hno
      · refine aw_go 0 18 [some (.ref 0), some (.int p), some (.int q), some (.int s)] [.int 0] (moH lf rt nx sz hg nu hd (nI n) nm le (nI ns) pl wa tx (nI L) ou (nI no) wd ws tw tg o1 s1 atp F FP pS pF pT pL op it isz wh dn wk me 0 ot) rfl ?_
        refine aw_if_ne rfl (fun h18 => absurd h18 (by decide)) (fun h18 => ?_)
        refine aw_go 1 22 [some (.ref 0), some (.int p), some (.int q), some (.int s)] [.int 0] (moH lf rt nx sz hg nu hd (nI n) nm le (nI ns) pl wa tx (nI L) ou (nI no) wd ws tw tg o1 s1 atp F FP pS pF pT pL op it isz wh dn wk me 0 ot) rfl ?_
        exact aw_iret rfl (by decide) rfl ⟨rfl, m_mk hx⟩ rfl (Nat.le_refl _) (Nat.le_refl _) -- [.int 0] (moH lf rt nx sz hg nu hd (nI n) nm le (nI ns) pl wa tx (nI L) ou (nI no) wd ws tw tg o1 s1 atp F FP pS pF pT pL op it isz wh dn wk me 0 ot)
    · refine aw_go 0 11 [some (.ref 0), some (.int p), some (.int q), some (.int s)] [.int 0] (moH lf rt nx sz hg nu hd (nI n) nm le (nI ns) pl wa tx (nI L) ou (nI no) wd ws tw tg o1 s1 atp F FP pS pF pT pL op it isz wh dn wk me 0 ot) rfl ?_
      refine aw_if_eq rfl (fun h11 => ?_) (fun h11 => absurd h11 (by decide))
      refine aw_go 1 22 [some (.ref 0), some (.int p), some (.int q), some (.int s)] [.int 0] (moH lf rt nx sz hg nu hd (nI n) nm le (nI ns) pl wa tx (nI L) ou (nI no) wd ws tw tg o1 s1 atp F FP pS pF pT pL op it isz wh dn wk me 0 ot) rfl ?_
      exact aw_iret rfl (by decide) rfl ⟨rfl, m_mk hx⟩ rfl (Nat.le_refl _) (Nat.le_refl _) -- [.int 0] (moH lf rt nx sz hg nu hd (nI n) nm le (nI ns) pl wa tx (nI L) ou (nI no) wd ws tw tg o1 s1 atp F FP pS pF pT pL op it isz wh dn wk me 0 ot)
  · refine aw_go 0 4 [some (.ref 0), some (.int p), some (.int q), some (.int s)] [.int 0] (moH lf rt nx sz hg nu hd (nI n) nm le (nI ns) pl wa tx (nI L) ou (nI no) wd ws tw tg o1 s1 atp F FP pS pF pT pL op it isz wh dn wk me 0 ot) rfl ?_
    refine aw_if_eq rfl (fun h4 => ?_) (fun h4 => absurd h4 (by decide))
    refine aw_go 1 22 [some (.ref 0), some (.int p), some (.int q), some (.int s)] [.int 0] (moH lf rt nx sz hg nu hd (nI n) nm le (nI ns) pl wa tx (nI L) ou (nI no) wd ws tw tg o1 s1 atp F FP pS pF pT pL op it isz wh dn wk me 0 ot) rfl ?_
    exact aw_iret rfl (by decide) rfl ⟨rfl, m_mk hx⟩ rfl (Nat.le_refl _) (Nat.le_refl _) -- [.int 0] (moH lf rt nx sz hg nu hd (nI n) nm le (nI ns) pl wa tx (nI L) ou (nI no) wd ws tw tg o1 s1 atp F FP pS pF pT pL op it isz wh dn wk me 0 ot)
set_option maxHeartbeats 2000000 in
set_option maxRecDepth 100000 in
theorem c_Mo_set_y (l : Launch) (lf rt nx sz hg : Nat → Int32) (nu : Nat → Int64) (hd nm le pl wa tx ou wd : Nat → Int32) (ws : Int32) (tw : Nat → Int32) (tg : Int32) (o1 : Nat → Int32) (s1 atp : Int32) (pS pF pT pL : Nat → Int32) (op : Int32) (it : Nat → Int32) (isz wh dn : Int32) (wk me ot : Nat → Int32) (n ns no : Nat) (t : Nat → Tr) (T : Nat → Nat) (L : Nat) (w : Nat → Nat) (P : Nat → Tr) (F FP : Int32) (O : List Nat) (hx : m_in n ns t lf rt nx hg nu hd nm le pl wa tx ou no T L w P O) (j : Nat) (hj : j < 8) (v : Nat) (hv : v < 4611686018427387904) (hn : n < 16000) : Con l y_Mo_set M_Mo_set 2 47 [.ref 0, .int (nI j), .long (lN v)] (moH lf rt nx sz hg nu hd (nI n) nm le (nI ns) pl wa tx (nI L) ou (nI no) wd ws tw tg o1 s1 atp F FP pS pF pT pL op it isz wh dn wk me 0 ot) 25 0 0 0 (fun r h' => r = some (.int 1) ∧ ∃ n2, n ≤ n2 ∧ n2 ≤ n + 1 ∧ m_ok n2 ns T L w (va_up P j (tr_nat v)) F FP O h') := by
  have h16n := hx.1.n16
  refine Con.ent ok_Mo_set (by decide +kernel) rfl ?_
  intro pA eA sA mA argsA belowA methA cA GA μA
  refine aw_go 1 1 [some (.ref 0), some (.int (nI j)), some (.long (lN v)), none] [.int (nI j)] (moH lf rt nx sz hg nu hd (nI n) nm le (nI ns) pl wa tx (nI L) ou (nI no) wd ws tw tg o1 s1 atp F FP pS pF pT pL op it isz wh dn wk me 0 ot) rfl ?_
  refine aw_cS [] (c_Mo_isP1 l j hj) rfl cw_Mo_236 rfl rfl rfl rfl (Nat.le_refl _) (Nat.le_refl _) (fun r h' hp => ?_)
  obtain ⟨rfl, rfl⟩ := hp
  refine aw_go 0 4 [some (.ref 0), some (.int (nI j)), some (.long (lN v)), none] [.int 1] (moH lf rt nx sz hg nu hd (nI n) nm le (nI ns) pl wa tx (nI L) ou (nI no) wd ws tw tg o1 s1 atp F FP pS pF pT pL op it isz wh dn wk me 0 ot) rfl ?_
  refine aw_if_eq rfl (fun h4 => absurd h4 (by decide)) (fun h4 => ?_)
  refine aw_go 3 10 [some (.ref 0), some (.int (nI j)), some (.long (lN v)), none] [.int (lg_cmp (lN v) 0)] (moH lf rt nx sz hg nu hd (nI n) nm le (nI ns) pl wa tx (nI L) ou (nI no) wd ws tw tg o1 s1 atp F FP pS pF pT pL op it isz wh dn wk me 0 ot) rfl ?_
  refine aw_if_lt rfl (fun h10 => absurd h10 (xs_lo hv)) (fun h10 => ?_)
  refine aw_go 3 18 [some (.ref 0), some (.int (nI j)), some (.long (lN v)), none] [.int (lg_cmp (lN v) 4611686018427387903)] (moH lf rt nx sz hg nu hd (nI n) nm le (nI ns) pl wa tx (nI L) ou (nI no) wd ws tw tg o1 s1 atp F FP pS pF pT pL op it isz wh dn wk me 0 ot) rfl ?_
  refine aw_if_le rfl (fun h18 => ?_) (fun h18 => absurd (xs_le hv) h18)
  refine aw_go 5 30 [some (.ref 0), some (.int (nI j)), some (.long (lN v)), none] [.long (lN v), .ref 0, .int (nI j), .ref 10] (moH lf rt nx sz hg nu hd (nI n) nm le (nI ns) pl wa tx (nI L) ou (nI no) wd ws tw tg o1 s1 atp F FP pS pF pT pL op it isz wh dn wk me 0 ot) rfl ?_
  refine aw_cV [0, 1, 2, 3, 4, 5, 6, 7, 8, 9, 10, 11, 12, 13, 14, 15, 16, 17, 18, 19, 20, 21, 22, 23, 24] (c_Mo_natural l lf rt nx sz hg nu hd nm le pl wa tx (nI L) ou (nI no) wd ws tw tg o1 s1 atp F FP pS pF pT pL op it isz wh dn wk me 0 ot n ns t hx.1 v hv hn) rfl cw_Mo_167 rfl rfl rfl rfl rfl rfl (Nat.le_refl _) (Nat.le_refl _) (fun r h' hp => ?_)
  obtain ⟨j3, n2, lf2, rt2, nx2, sz2, hg2, nu2, hd2, t2, g1, g2, g3, g4, g5, g6, rfl, rfl⟩ := hp
  refine aw_go 0 33 [some (.ref 0), some (.int (nI j)), some (.long (lN v)), none] [.int (nI j3), .int (nI j), .ref 10] (moH lf2 rt2 nx2 sz2 hg2 nu2 hd2 (nI n2) nm le (nI ns) pl wa tx (nI L) ou (nI no) wd ws tw tg o1 s1 atp F FP pS pF pT pL op it isz wh dn wk me 0 ot) rfl ?_
  refine aw_iastN rfl rfl ⟨by omega, by omega⟩ ?_
  refine aw_go 1 35 [some (.ref 0), some (.int (nI j)), some (.long (lN v)), none] [.int 1] (moH lf2 rt2 nx2 sz2 hg2 nu2 hd2 (nI n2) nm le (nI ns) (upd pl j (nI j3)) wa tx (nI L) ou (nI no) wd ws tw tg o1 s1 atp F FP pS pF pT pL op it isz wh dn wk me 0 ot) rfl ?_
  exact aw_iret rfl (by decide) rfl ⟨rfl, n2, g4, g5, m_mk ⟨g1, ⟨by have := hx.2.1.1; omega, by rw [g6 0 (by have := hx.2.1.1; omega)]; exact hx.2.1.2.1, by rw [g6 1 (by have := hx.2.1.1; omega)]; exact hx.2.1.2.2⟩, hx.2.2.1, hx.2.2.2.1, pl_up (pl_ext hx.2.2.2.2.1 g4 g6) ⟨j3, g2, rfl, g3⟩, hx.2.2.2.2.2⟩⟩ rfl (Nat.le_refl _) (Nat.le_refl _) -- [.int 1] (moH lf2 rt2 nx2 sz2 hg2 nu2 hd2 (nI n2) nm le (nI ns) (upd pl j (nI j3)) wa tx (nI L) ou (nI no) wd ws tw tg o1 s1 atp F FP pS pF pT pL op it isz wh dn wk me 0 ot)
set_option maxHeartbeats 2000000 in
set_option maxRecDepth 100000 in
theorem c_Mo_set_n (l : Launch) (lf rt nx sz hg : Nat → Int32) (nu : Nat → Int64) (hd nm le pl wa tx ou wd : Nat → Int32) (ws : Int32) (tw : Nat → Int32) (tg : Int32) (o1 : Nat → Int32) (s1 atp : Int32) (pS pF pT pL : Nat → Int32) (op : Int32) (it : Nat → Int32) (isz wh dn : Int32) (wk me ot : Nat → Int32) (n ns no : Nat) (t : Nat → Tr) (T : Nat → Nat) (L : Nat) (w : Nat → Nat) (P : Nat → Tr) (F FP : Int32) (O : List Nat) (hx : m_in n ns t lf rt nx hg nu hd nm le pl wa tx ou no T L w P O) (p : Int32) (x : Int64) (hp : ¬ isP p) : Con l y_Mo_set M_Mo_set 2 47 [.ref 0, .int p, .long x] (moH lf rt nx sz hg nu hd (nI n) nm le (nI ns) pl wa tx (nI L) ou (nI no) wd ws tw tg o1 s1 atp F FP pS pF pT pL op it isz wh dn wk me 0 ot) 25 0 0 0 (fun r h' => r = some (.int 0) ∧ m_ok n ns T L w P F FP O h') := by
  refine Con.ent ok_Mo_set (by decide +kernel) rfl ?_
  intro pA eA sA mA argsA belowA methA cA GA μA
  refine aw_go 1 1 [some (.ref 0), some (.int p), some (.long x), none] [.int p] (moH lf rt nx sz hg nu hd (nI n) nm le (nI ns) pl wa tx (nI L) ou (nI no) wd ws tw tg o1 s1 atp F FP pS pF pT pL op it isz wh dn wk me 0 ot) rfl ?_
  refine aw_cS [] (c_Mo_isP0 l p hp) rfl cw_Mo_236 rfl rfl rfl rfl (Nat.le_refl _) (Nat.le_refl _) (fun r h' hp => ?_)
  obtain ⟨rfl, rfl⟩ := hp
  refine aw_go 0 4 [some (.ref 0), some (.int p), some (.long x), none] [.int 0] (moH lf rt nx sz hg nu hd (nI n) nm le (nI ns) pl wa tx (nI L) ou (nI no) wd ws tw tg o1 s1 atp F FP pS pF pT pL op it isz wh dn wk me 0 ot) rfl ?_
  refine aw_if_eq rfl (fun h4 => ?_) (fun h4 => absurd h4 (by decide))
  refine aw_go 1 22 [some (.ref 0), some (.int p), some (.long x), none] [.int 0] (moH lf rt nx sz hg nu hd (nI n) nm le (nI ns) pl wa tx (nI L) ou (nI no) wd ws tw tg o1 s1 atp F FP pS pF pT pL op it isz wh dn wk me 0 ot) rfl ?_
  exact aw_iret rfl (by decide) rfl ⟨rfl, m_mk hx⟩ rfl (Nat.le_refl _) (Nat.le_refl _) -- [.int 0] (moH lf rt nx sz hg nu hd (nI n) nm le (nI ns) pl wa tx (nI L) ou (nI no) wd ws tw tg o1 s1 atp F FP pS pF pT pL op it isz wh dn wk me 0 ot)
set_option maxHeartbeats 2000000 in
set_option maxRecDepth 100000 in
theorem c_Mo_set_v (l : Launch) (lf rt nx sz hg : Nat → Int32) (nu : Nat → Int64) (hd nm le pl wa tx ou wd : Nat → Int32) (ws : Int32) (tw : Nat → Int32) (tg : Int32) (o1 : Nat → Int32) (s1 atp : Int32) (pS pF pT pL : Nat → Int32) (op : Int32) (it : Nat → Int32) (isz wh dn : Int32) (wk me ot : Nat → Int32) (n ns no : Nat) (t : Nat → Tr) (T : Nat → Nat) (L : Nat) (w : Nat → Nat) (P : Nat → Tr) (F FP : Int32) (O : List Nat) (hx : m_in n ns t lf rt nx hg nu hd nm le pl wa tx ou no T L w P O) (j : Nat) (hj : j < 8) (x : Int64) (hno : ¬ ∃ v, v < 4611686018427387904 ∧ x = lN v) : Con l y_Mo_set M_Mo_set 2 47 [.ref 0, .int (nI j), .long x] (moH lf rt nx sz hg nu hd (nI n) nm le (nI ns) pl wa tx (nI L) ou (nI no) wd ws tw tg o1 s1 atp F FP pS pF pT pL op it isz wh dn wk me 0 ot) 25 0 0 0 (fun r h' => r = some (.int 0) ∧ m_ok n ns T L w P F FP O h') := by
  refine Con.ent ok_Mo_set (by decide +kernel) rfl ?_
  intro pA eA sA mA argsA belowA methA cA GA μA
  refine aw_go 1 1 [some (.ref 0), some (.int (nI j)), some (.long x), none] [.int (nI j)] (moH lf rt nx sz hg nu hd (nI n) nm le (nI ns) pl wa tx (nI L) ou (nI no) wd ws tw tg o1 s1 atp F FP pS pF pT pL op it isz wh dn wk me 0 ot) rfl ?_
  refine aw_cS [] (c_Mo_isP1 l j hj) rfl cw_Mo_236 rfl rfl rfl rfl (Nat.le_refl _) (Nat.le_refl _) (fun r h' hp => ?_)
  obtain ⟨rfl, rfl⟩ := hp
  refine aw_go 0 4 [some (.ref 0), some (.int (nI j)), some (.long x), none] [.int 1] (moH lf rt nx sz hg nu hd (nI n) nm le (nI ns) pl wa tx (nI L) ou (nI no) wd ws tw tg o1 s1 atp F FP pS pF pT pL op it isz wh dn wk me 0 ot) rfl ?_
  refine aw_if_eq rfl (fun h4 => absurd h4 (by decide)) (fun h4 => ?_)
  refine aw_go 3 10 [some (.ref 0), some (.int (nI j)), some (.long x), none] [.int (lg_cmp x 0)] (moH lf rt nx sz hg nu hd (nI n) nm le (nI ns) pl wa tx (nI L) ou (nI no) wd ws tw tg o1 s1 atp F FP pS pF pT pL op it isz wh dn wk me 0 ot) rfl ?_
  refine aw_if_lt rfl (fun h10 => ?_) (fun h10 => ?_)
  · refine aw_go 1 22 [some (.ref 0), some (.int (nI j)), some (.long x), none] [.int 0] (moH lf rt nx sz hg nu hd (nI n) nm le (nI ns) pl wa tx (nI L) ou (nI no) wd ws tw tg o1 s1 atp F FP pS pF pT pL op it isz wh dn wk me 0 ot) rfl ?_
    exact aw_iret rfl (by decide) rfl ⟨rfl, m_mk hx⟩ rfl (Nat.le_refl _) (Nat.le_refl _) -- [.int 0] (moH lf rt nx sz hg nu hd (nI n) nm le (nI ns) pl wa tx (nI L) ou (nI no) wd ws tw tg o1 s1 atp F FP pS pF pT pL op it isz wh dn wk me 0 ot)
  · refine aw_go 3 18 [some (.ref 0), some (.int (nI j)), some (.long x), none] [.int (lg_cmp x 4611686018427387903)] (moH lf rt nx sz hg nu hd (nI n) nm le (nI ns) pl wa tx (nI L) ou (nI no) wd ws tw tg o1 s1 atp F FP pS pF pT pL op it isz wh dn wk me 0 ot) rfl ?_
    refine aw_if_le rfl (fun h18 => absurd (xs_in h10 (xs_gt h18)) hno) (fun h18 => ?_)
    refine aw_go 1 22 [some (.ref 0), some (.int (nI j)), some (.long x), none] [.int 0] (moH lf rt nx sz hg nu hd (nI n) nm le (nI ns) pl wa tx (nI L) ou (nI no) wd ws tw tg o1 s1 atp F FP pS pF pT pL op it isz wh dn wk me 0 ot) rfl ?_
    exact aw_iret rfl (by decide) rfl ⟨rfl, m_mk hx⟩ rfl (Nat.le_refl _) (Nat.le_refl _) -- [.int 0] (moH lf rt nx sz hg nu hd (nI n) nm le (nI ns) pl wa tx (nI L) ou (nI no) wd ws tw tg o1 s1 atp F FP pS pF pT pL op it isz wh dn wk me 0 ot)
set_option maxHeartbeats 2000000 in
set_option maxRecDepth 100000 in
theorem c_Mo_read_y (l : Launch) (lf rt nx sz hg : Nat → Int32) (nu : Nat → Int64) (hd nm le pl wa tx ou wd : Nat → Int32) (ws : Int32) (tw : Nat → Int32) (tg : Int32) (o1 : Nat → Int32) (s1 atp : Int32) (pS pF pT pL : Nat → Int32) (op : Int32) (it : Nat → Int32) (isz wh dn : Int32) (wk me ot : Nat → Int32) (n ns no : Nat) (t : Nat → Tr) (T : Nat → Nat) (L : Nat) (w : Nat → Nat) (P : Nat → Tr) (F FP : Int32) (O : List Nat) (hx : m_in n ns t lf rt nx hg nu hd nm le pl wa tx ou no T L w P O) (j : Nat) (hj : j < 8) (hbn : n + 2 * tx_nz T L + 10 ≤ 16000) (hbs : 2 * ns + tx_nz T L + 1 ≤ 5990) : Con l y_Mo_read M_Mo_read 7 159 [.ref 0, .int (nI j)] (moH lf rt nx sz hg nu hd (nI n) nm le (nI ns) pl wa tx (nI L) ou (nI no) wd ws tw tg o1 s1 atp F FP pS pF pT pL op it isz wh dn wk me 0 ot) 25 0 0 0 (fun r h' => r = some (.int (nI (ps_rd T L 1001 0 1 [] none).1)) ∧ ∃ n2 ns2, n ≤ n2 ∧ n2 ≤ n + 2 * tx_nz T L ∧ 2 * ns2 ≤ 2 * ns + tx_nz T L + 1 ∧ m_ok n2 ns2 T 0 w (rd_P P j (ps_rd T L 1001 0 1 [] none)) (nI (ps_rd T L 1001 0 1 [] none).1) (if (ps_rd T L 1001 0 1 [] none).1 = 0 then -1 else nI (ps_rd T L 1001 0 1 [] none).2.1) O h') := by
  refine Con.ent ok_Mo_read (by decide +kernel) rfl ?_
  intro pA eA sA mA argsA belowA methA cA GA μA
  refine aw_go 1 1 [some (.ref 0), some (.int (nI j))] [.int (nI j)] (moH lf rt nx sz hg nu hd (nI n) nm le (nI ns) pl wa tx (nI L) ou (nI no) wd ws tw tg o1 s1 atp F FP pS pF pT pL op it isz wh dn wk me 0 ot) rfl ?_
  refine aw_cS [] (c_Mo_isP1 l j hj) rfl cw_Mo_236 rfl rfl rfl rfl (Nat.le_refl _) (Nat.le_refl _) (fun r h' hp => ?_)
  obtain ⟨rfl, rfl⟩ := hp
  refine aw_go 0 4 [some (.ref 0), some (.int (nI j))] [.int 1] (moH lf rt nx sz hg nu hd (nI n) nm le (nI ns) pl wa tx (nI L) ou (nI no) wd ws tw tg o1 s1 atp F FP pS pF pT pL op it isz wh dn wk me 0 ot) rfl ?_
  refine aw_if_ne rfl (fun h4 => ?_) (fun h4 => absurd h4 (by decide))
  refine aw_go 1 10 [some (.ref 0), some (.int (nI j))] [.ref 0] (moH lf rt nx sz hg nu hd (nI n) nm le (nI ns) pl wa tx (nI L) ou (nI no) wd ws tw tg o1 s1 atp F FP pS pF pT pL op it isz wh dn wk me 0 ot) rfl ?_
  refine aw_cV [0, 1, 2, 3, 4, 5, 6, 7, 8, 9, 10, 11, 12, 13, 14, 15, 16, 17, 18, 19, 20, 21, 22, 23, 24] (c_Mo_reads l lf rt nx sz hg nu hd nm le pl wa tx ou (nI no) wd ws tw tg o1 s1 atp F FP pS pF pT pL op it isz wh dn wk me 0 ot n ns t hx.1 T L hx.2.2.1 hx.2.1 hbn hbs) rfl cw_Mo_239 rfl rfl rfl rfl rfl rfl (Nat.le_refl _) (Nat.le_refl _) (fun r h' hp => ?_)
  obtain ⟨n2, ns2, lf2, rt2, nx2, sz2, hg2, nu2, hd2, nm2, le2, wd2, pS2, pF2, pT2, pL2, it2, ws2, atp2, op2, isz2, wh2, dn2, t2, g1, g4, g5, g7, g8, g6, g9, rfl, rfl⟩ := hp
  generalize hPR : (ps_rd T L 1001 0 1 [] none) = PR at g9 ⊢
  obtain ⟨F2, FP2, X2⟩ := PR
  dsimp only at g9 ⊢
  refine aw_go 0 13 [some (.ref 0), some (.int (nI j))] [.int (if F2 = 0 then 1 else 0)] (moH lf2 rt2 nx2 sz2 hg2 nu2 hd2 (nI n2) nm2 le2 (nI ns2) pl wa tx 0 ou (nI no) wd2 ws2 tw tg o1 s1 atp2 (nI F2) (if F2 = 0 then -1 else nI FP2) pS2 pF2 pT2 pL2 op2 it2 isz2 wh2 dn2 wk me 0 ot) rfl ?_
  refine aw_if_eq rfl (fun h13 => ?_) (fun h13 => ?_)
  · refine aw_go 2 30 [some (.ref 0), some (.int (nI j))] [.int (nI F2)] (moH lf2 rt2 nx2 sz2 hg2 nu2 hd2 (nI n2) nm2 le2 (nI ns2) pl wa tx 0 ou (nI no) wd2 ws2 tw tg o1 s1 atp2 (nI F2) (if F2 = 0 then -1 else nI FP2) pS2 pF2 pT2 pL2 op2 it2 isz2 wh2 dn2 wk me 0 ot) rfl ?_
    exact aw_iret rfl rfl rfl (by exact ⟨rfl, n2, ns2, g4, g5, g8, m_mk ⟨g1, ⟨by have := hx.2.1.1; omega, by rw [g6 0 (by have := hx.2.1.1; omega)]; exact hx.2.1.2.1, by rw [g6 1 (by have := hx.2.1.1; omega)]; exact hx.2.1.2.2⟩, ⟨Nat.zero_le _, fun j hj => absurd hj (Nat.not_lt_zero j)⟩, hx.2.2.2.1, by rw [rd_P_n (fun z => by rw [if_pos z] at h13; exact absurd h13 (by decide))]; exact pl_ext hx.2.2.2.2.1 g4 g6, hx.2.2.2.2.2⟩⟩) rfl (Nat.le_refl _) (Nat.le_refl _) -- [.int (nI F2)] (moH lf2 rt2 nx2 sz2 hg2 nu2 hd2 (nI n2) nm2 le2 (nI ns2) pl wa tx 0 ou (nI no) wd2 ws2 tw tg o1 s1 atp2 (nI F2) (if F2 = 0 then -1 else nI FP2) pS2 pF2 pT2 pL2 op2 it2 isz2 wh2 dn2 wk me 0 ot)
  · refine aw_go 5 25 [some (.ref 0), some (.int (nI j))] [.int wh2, .int (nI j), .ref 10] (moH lf2 rt2 nx2 sz2 hg2 nu2 hd2 (nI n2) nm2 le2 (nI ns2) pl wa tx 0 ou (nI no) wd2 ws2 tw tg o1 s1 atp2 (nI F2) (if F2 = 0 then -1 else nI FP2) pS2 pF2 pT2 pL2 op2 it2 isz2 wh2 dn2 wk me 0 ot) rfl ?_
    refine aw_iastN rfl rfl ⟨by omega, by omega⟩ ?_
    refine aw_go 2 30 [some (.ref 0), some (.int (nI j))] [.int (nI F2)] (moH lf2 rt2 nx2 sz2 hg2 nu2 hd2 (nI n2) nm2 le2 (nI ns2) (upd pl j wh2) wa tx 0 ou (nI no) wd2 ws2 tw tg o1 s1 atp2 (nI F2) (if F2 = 0 then -1 else nI FP2) pS2 pF2 pT2 pL2 op2 it2 isz2 wh2 dn2 wk me 0 ot) rfl ?_
    exact aw_iret rfl rfl rfl (by exact ⟨rfl, n2, ns2, g4, g5, g8, m_mk ⟨g1, ⟨by have := hx.2.1.1; omega, by rw [g6 0 (by have := hx.2.1.1; omega)]; exact hx.2.1.2.1, by rw [g6 1 (by have := hx.2.1.1; omega)]; exact hx.2.1.2.2⟩, ⟨Nat.zero_le _, fun j hj => absurd hj (Nat.not_lt_zero j)⟩, hx.2.2.2.1, by have hF0 : F2 = 0 := Classical.byContradiction (fun z => h13 (if_neg z)); obtain ⟨i3, hi3, rfl, q3⟩ := g9 hF0; rw [rd_P_y hF0 q3]; exact pl_up (pl_ext hx.2.2.2.2.1 g4 g6) ⟨i3, hi3, rfl, rfl⟩, hx.2.2.2.2.2⟩⟩) rfl (Nat.le_refl _) (Nat.le_refl _) -- [.int (nI F2)] (moH lf2 rt2 nx2 sz2 hg2 nu2 hd2 (nI n2) nm2 le2 (nI ns2) (upd pl j wh2) wa tx 0 ou (nI no) wd2 ws2 tw tg o1 s1 atp2 (nI F2) (if F2 = 0 then -1 else nI FP2) pS2 pF2 pT2 pL2 op2 it2 isz2 wh2 dn2 wk me 0 ot)
set_option maxHeartbeats 2000000 in
set_option maxRecDepth 100000 in
theorem c_Mo_read_n (l : Launch) (lf rt nx sz hg : Nat → Int32) (nu : Nat → Int64) (hd nm le pl wa tx ou wd : Nat → Int32) (ws : Int32) (tw : Nat → Int32) (tg : Int32) (o1 : Nat → Int32) (s1 atp : Int32) (pS pF pT pL : Nat → Int32) (op : Int32) (it : Nat → Int32) (isz wh dn : Int32) (wk me ot : Nat → Int32) (n ns no : Nat) (t : Nat → Tr) (T : Nat → Nat) (L : Nat) (w : Nat → Nat) (P : Nat → Tr) (F FP : Int32) (O : List Nat) (hx : m_in n ns t lf rt nx hg nu hd nm le pl wa tx ou no T L w P O) (p : Int32) (hp : ¬ isP p) : Con l y_Mo_read M_Mo_read 7 159 [.ref 0, .int p] (moH lf rt nx sz hg nu hd (nI n) nm le (nI ns) pl wa tx (nI L) ou (nI no) wd ws tw tg o1 s1 atp F FP pS pF pT pL op it isz wh dn wk me 0 ot) 25 0 0 0 (fun r h' => r = some (.int (-1)) ∧ m_ok n ns T L w P F FP O h') := by
  refine Con.ent ok_Mo_read (by decide +kernel) rfl ?_
  intro pA eA sA mA argsA belowA methA cA GA μA
  refine aw_go 1 1 [some (.ref 0), some (.int p)] [.int p] (moH lf rt nx sz hg nu hd (nI n) nm le (nI ns) pl wa tx (nI L) ou (nI no) wd ws tw tg o1 s1 atp F FP pS pF pT pL op it isz wh dn wk me 0 ot) rfl ?_
  refine aw_cS [] (c_Mo_isP0 l p hp) rfl cw_Mo_236 rfl rfl rfl rfl (Nat.le_refl _) (Nat.le_refl _) (fun r h' hp => ?_)
  obtain ⟨rfl, rfl⟩ := hp
  refine aw_go 0 4 [some (.ref 0), some (.int p)] [.int 0] (moH lf rt nx sz hg nu hd (nI n) nm le (nI ns) pl wa tx (nI L) ou (nI no) wd ws tw tg o1 s1 atp F FP pS pF pT pL op it isz wh dn wk me 0 ot) rfl ?_
  refine aw_if_ne rfl (fun h4 => absurd h4 (by decide)) (fun h4 => ?_)
  refine aw_go 1 8 [some (.ref 0), some (.int p)] [.int (-1)] (moH lf rt nx sz hg nu hd (nI n) nm le (nI ns) pl wa tx (nI L) ou (nI no) wd ws tw tg o1 s1 atp F FP pS pF pT pL op it isz wh dn wk me 0 ot) rfl ?_
  exact aw_iret rfl rfl rfl ⟨rfl, m_mk hx⟩ rfl (Nat.le_refl _) (Nat.le_refl _) -- [.int (-1)] (moH lf rt nx sz hg nu hd (nI n) nm le (nI ns) pl wa tx (nI L) ou (nI no) wd ws tw tg o1 s1 atp F FP pS pF pT pL op it isz wh dn wk me 0 ot)
