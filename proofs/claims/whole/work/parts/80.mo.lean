/-! the model: words, symbols, its table of objects -/
/-- the characters of a text from k on -/
def wlT (T : Nat → Nat) : Nat → Nat → List Nat
  | _, 0 => []
  | k, q + 1 => T k :: wlT T (k + 1) q
theorem wlT_len (T : Nat → Nat) : ∀ q k, (wlT T k q).length = q := by
  intro q
  induction q with
  | zero => intro k; rfl
  | succ q ih => intro k; simp only [wlT, List.length_cons, ih]
theorem wlT_get (T : Nat → Nat) : ∀ q k j, j < q → (wlT T k q).getD j 0 = T (k + j) := by
  intro q
  induction q with
  | zero => intro k j h; omega
  | succ q ih =>
    intro k j h
    cases j with
    | zero => rfl
    | succ j =>
      simp only [wlT, List.getD_cons_succ]
      rw [ih (k + 1) j (by omega)]
      congr 1
      omega
theorem wlT_mem {T : Nat → Nat} {P : Nat → Prop} : ∀ q k, (∀ j, k ≤ j → j < k + q → P (T j)) → ∀ c ∈ wlT T k q, P c := by
  intro q
  induction q with
  | zero => intro k _ c hc; cases hc
  | succ q ih =>
    intro k h c hc
    rcases List.mem_cons.mp hc with e | e
    · rw [e]; exact h k (Nat.le_refl _) (by omega)
    · exact ih (k + 1) (fun j h1 h2 => h j (by omega) (by omega)) c e
/-- a symbol's number -/
def wc (w : List Nat) : Nat := w.foldl (fun v c => v * 47 + sg_j c) 0
def wv (w : List Nat) : Prop := 1 ≤ w.length ∧ w.length ≤ 11 ∧ ∀ c ∈ w, sg_at c = true
theorem tk_sv_fold (T : Nat → Nat) : ∀ q k v, tk_sv T q k v = (wlT T k q).foldl (fun v c => v * 47 + sg_j c) v := by
  intro q
  induction q with
  | zero => intro k v; rfl
  | succ q ih => intro k v; simp only [tk_sv, wlT, List.foldl_cons]; exact ih _ _
theorem tk_sv_wc (T : Nat → Nat) (q k : Nat) : tk_sv T q k 0 = wc (wlT T k q) := tk_sv_fold T q k 0
theorem sg_j_bd {c : Nat} (h : sg_at c = true) : 1 ≤ sg_j c ∧ sg_j c < 47 ∧ am_ch 0 (sg_j c) = c := by
  have h1 := sg_j_at h
  have h2 := sg_ix_lt h1
  refine ⟨?_, h2, ?_⟩
  · unfold sg_at at h
    rw [h1] at h
    cases hj : sg_j c with
    | zero => rw [hj] at h; cases h
    | succ q => omega
  · have := List.find?_some h1
    exact Nat.eq_of_beq_eq_true this
theorem dl_snoc {b d : Nat} (hd : d < b) (v : Nat) : ∀ q, dl b (q + 1) (v * b + d) = dl b q v ++ [d] := by
  intro q
  induction q with
  | zero =>
    simp only [dl, Nat.pow_zero, Nat.div_one, List.nil_append]
    rw [Nat.mul_comm, Nat.mul_add_mod, Nat.mod_eq_of_lt hd]
  | succ q ih =>
    rw [show dl b (q + 1 + 1) (v * b + d) = ((v * b + d) / b ^ (q + 1) % b) :: dl b (q + 1) (v * b + d) from rfl, ih, show dl b (q + 1) v = (v / b ^ q % b) :: dl b q v from rfl]
    have : (v * b + d) / b ^ (q + 1) = v / b ^ q := by
      rw [Nat.pow_succ, Nat.mul_comm (b ^ q) b, ← Nat.div_div_eq_div_mul]
      congr 1
      rw [Nat.mul_comm, Nat.mul_add_div (by omega), Nat.div_eq_of_lt hd, Nat.add_zero]
    rw [this]
    rfl
theorem wc_snoc (w : List Nat) (c : Nat) : wc (w ++ [c]) = wc w * 47 + sg_j c := by
  unfold wc
  rw [List.foldl_append]
  rfl
theorem wc_bd : ∀ (r : List Nat), (∀ c ∈ r, sg_at c = true) → wc r.reverse < 47 ^ r.length ∧ (r ≠ [] → 47 ^ (r.length - 1) ≤ wc r.reverse) ∧ dl 47 r.length (wc r.reverse) = r.reverse.map sg_j := by
  intro r
  induction r with
  | nil => intro _; exact ⟨by decide, fun h => absurd rfl h, rfl⟩
  | cons c r ih =>
    intro h
    obtain ⟨h1, h2, h3⟩ := ih (fun x hx => h x (List.mem_cons_of_mem _ hx))
    obtain ⟨g1, g2, -⟩ := sg_j_bd (h c List.mem_cons_self)
    rw [List.reverse_cons, wc_snoc, List.length_cons]
    refine ⟨?_, fun _ => ?_, ?_⟩
    · rw [Nat.pow_succ]; omega
    · rw [Nat.add_sub_cancel]
      cases r with
      | nil => simp only [List.length_nil, Nat.pow_zero]; omega
      | cons c2 r2 =>
        have h4 := h2 (by simp)
        rw [List.length_cons, Nat.add_sub_cancel] at h4
        rw [List.length_cons, Nat.pow_succ]
        omega
    · rw [dl_snoc g2, h3, List.map_append]
      rfl
theorem tl_K_is {b v K : Nat} (h1 : ∀ j, j < K → b ^ j ≤ v) (h2 : v < b ^ K) : ∀ q k, k ≤ K → K ≤ k + q → tl_K b v q k = K := by
  intro q
  induction q with
  | zero => intro k h3 h4; simp only [tl_K]; omega
  | succ q ih =>
    intro k h3 h4
    simp only [tl_K]
    by_cases z : k = K
    · rw [if_neg (by rw [z]; omega)]; exact z
    · rw [if_pos (h1 k (by omega))]
      exact ih (k + 1) (by omega) (by omega)
/-- a symbol is told as it was written -/
theorem wt {w : List Nat} (h : wv w) : tl_at (2 * wc w + 1) = w := by
  obtain ⟨h1, h2, h3⟩ := h
  have hb := wc_bd w.reverse (fun c hc => h3 c (List.mem_reverse.mp hc))
  rw [List.reverse_reverse, List.length_reverse] at hb
  obtain ⟨g1, g2, g3⟩ := hb
  have g2 := g2 (fun z => by have := congrArg List.length z; simp at this; rw [this] at h1; simp at h1)
  unfold tl_at
  rw [if_neg (by omega), show (2 * wc w + 1) / 2 = wc w by omega, tl_K_is (K := w.length) (fun j hj => Nat.le_trans (Nat.pow_le_pow_right (by omega) (by omega)) g2) g1 18 1 h1 (by omega), g3, List.map_map]
  conv => rhs; rw [← List.map_id w]
  apply List.map_congr_left
  intro c hc
  exact (sg_j_bd (h3 c hc)).2.2
theorem wc_lt {w : List Nat} (h : wv w) : wc w < 4611686018427387904 := by
  have hb := (wc_bd w.reverse (fun c hc => h.2.2 c (List.mem_reverse.mp hc))).1
  rw [List.reverse_reverse, List.length_reverse] at hb
  have : 47 ^ w.length ≤ 47 ^ 11 := Nat.pow_le_pow_right (by omega) h.2.1
  have e : (47 : Nat) ^ 11 = 2472159215084012303 := by decide
  omega
theorem wc_inj {w w2 : List Nat} (h : wv w) (h2 : wv w2) (e : wc w = wc w2) : w = w2 := by rw [← wt h, ← wt h2, e]
/-! the table -/
def mo_sl (l r : Int32) : Int32 := (Int32.toUInt32 (((l * 40503) + (r * 30011)) + 7) >>> (Int32.toUInt32 2 &&& Int32.toUInt32 31)).toInt32 &&& 8191
def mo_sp (w : List Nat) : Int32 := (w.foldl (fun h c => (131 * h) + nI c) 5) &&& 8191
def mo_sn (v : Int64) : Int32 := mo_sl (Int64.toInt32 v) (Int64.toInt32 (v >>> (Int32.toInt64 32 &&& 63)))
theorem and_8191 (x : Int32) : ∃ q, q < 8192 ∧ x &&& 8191 = nI q := by
  rw [pk_and x (m := 8191) 13 (by decide)]
  exact ⟨_, Nat.mod_lt _ (by decide), rfl⟩
def ch_R (nx : Nat → Int32) : Int32 → List Nat → Prop
  | x, [] => x = -1
  | x, k :: r => x = nI k ∧ ch_R nx (nx k) r
theorem ch_R.keep {nx nx2 : Nat → Int32} : ∀ (l : List Nat) (x : Int32), (∀ k ∈ l, nx2 k = nx k) → ch_R nx x l → ch_R nx2 x l := by
  intro l
  induction l with
  | nil => intro x _ h; exact h
  | cons k r ih =>
    intro x h1 h2
    refine ⟨h2.1, ?_⟩
    rw [h1 k List.mem_cons_self]
    exact ih _ (fun j hj => h1 j (List.mem_cons_of_mem _ hj)) h2.2
def mo_nd (lf rt hg : Nat → Int32) (nu : Nat → Int64) (t : Nat → Tr) (ns : Nat) (sw : Nat → List Nat) (hh : Nat → Int32) (i : Nat) : Prop := hg i = nI (tr_dep (t i)) ∧ tr_dep (t i) ≤ i ∧
  ((lf i = -1 ∧ ∃ v, v < 4611686018427387904 ∧ nu i = lN v ∧ t i = tr_nat v ∧ hh i = mo_sn (lN v)) ∨ (lf i = -2 ∧ ∃ s, s < ns ∧ rt i = nI s ∧ t i = tr_sym (wc (sw s)) ∧ hh i = mo_sp (sw s)) ∨ (∃ a b, a < i ∧ b < i ∧ lf i = nI a ∧ rt i = nI b ∧ t i = .op (t a) (t b) ∧ hh i = mo_sl (nI a) (nI b)))
def mo_sy (nm le : Nat → Int32) (s : Nat) (w : List Nat) : Prop := wv w ∧ le s = nI w.length ∧ ∀ k, k < w.length → nm (12 * s + k) = nI (w.getD k 0)
def mo_in (n ns : Nat) (lf rt nx hg : Nat → Int32) (nu : Nat → Int64) (hd nm le : Nat → Int32) (t : Nat → Tr) (sw : Nat → List Nat) (hh : Nat → Int32) : Prop := (n ≤ 16000 ∧ ns ≤ 3000) ∧ (∀ i, i < n → mo_nd lf rt hg nu t ns sw hh i) ∧ (∀ s, s < ns → mo_sy nm le s (sw s)) ∧ (∀ i j, i < n → j < n → t i = t j → i = j) ∧ (∀ q, q < 8192 → ∃ ch, ch_R nx (hd q) ch ∧ (∀ k ∈ ch, k < n) ∧ ∀ i, i < n → hh i = nI q → i ∈ ch)
/-- the model's objects are trees -/
def mo_tb (n ns : Nat) (lf rt nx hg : Nat → Int32) (nu : Nat → Int64) (hd nm le : Nat → Int32) (t : Nat → Tr) : Prop := ∃ sw hh, mo_in n ns lf rt nx hg nu hd nm le t sw hh
theorem mo_in.add {n ns : Nat} {lf rt nx hg : Nat → Int32} {nu : Nat → Int64} {hd nm le : Nat → Int32} {t : Nat → Tr} {sw : Nat → List Nat} {hh : Nat → Int32} (h : mo_in n ns lf rt nx hg nu hd nm le t sw hh) (hn : n < 16000) {l r : Int32} {T : Tr} {q ns' : Nat} {nu' : Nat → Int64} {nm' le' : Nat → Int32} {sw' : Nat → List Nat} (hq : q < 8192) (e1 : ∀ i, i < n → nu' i = nu i) (e2 : ns ≤ ns' ∧ ns' ≤ 3000) (e3 : ∀ s, s < ns → sw' s = sw s) (e4 : ∀ s, s < ns' → mo_sy nm' le' s (sw' s)) (hT : ∀ i, i < n → t i ≠ T) (hd0 : tr_dep T ≤ n)
    (hnew : (l = -1 ∧ ∃ v, v < 4611686018427387904 ∧ nu' n = lN v ∧ T = tr_nat v ∧ nI q = mo_sn (lN v)) ∨ (l = -2 ∧ ∃ s, s < ns' ∧ r = nI s ∧ T = tr_sym (wc (sw' s)) ∧ nI q = mo_sp (sw' s)) ∨ (∃ a b, a < n ∧ b < n ∧ l = nI a ∧ r = nI b ∧ T = .op (t a) (t b) ∧ nI q = mo_sl (nI a) (nI b))) :
    mo_in (n + 1) ns' (upd lf n l) (upd rt n r) (upd nx n (hd q)) (upd hg n (nI (tr_dep T))) nu' (upd hd q (nI n)) nm' le' (va_up t n T) sw' (upd hh n (nI q)) := by
  obtain ⟨h1, h2, h3, h4, h5⟩ := h
  refine ⟨⟨by omega, e2.2⟩, fun i hi => ?_, e4, fun i j hi hj e => ?_, fun p hp => ?_⟩
  · by_cases z : i = n
    · subst z
      unfold mo_nd
      rw [va_up_self, pk_us, pk_us, pk_us, pk_us]
      refine ⟨rfl, hd0, ?_⟩
      rcases hnew with g | g | ⟨a, b, g1, g2, g3, g4, g5, g6⟩
      · exact Or.inl g
      · exact Or.inr (Or.inl g)
      · exact Or.inr (Or.inr ⟨a, b, g1, g2, g3, g4, by rw [va_up_ne _ _ (by omega), va_up_ne _ _ (by omega)]; exact g5, g6⟩)
    · obtain ⟨k1, k2, k3⟩ := h2 i (by omega)
      unfold mo_nd
      rw [va_up_ne _ _ z, pk_un z, pk_un z, pk_un z, pk_un z]
      refine ⟨k1, k2, ?_⟩
      rcases k3 with ⟨g1, v, g2, g3, g4⟩ | ⟨g1, s, g2, g3, g4, g5⟩ | ⟨a, b, g1, g2, g3, g4, g5, g6⟩
      · exact Or.inl ⟨g1, v, g2, by rw [e1 i (by omega)]; exact g3, g4⟩
      · exact Or.inr (Or.inl ⟨g1, s, by omega, g3, by rw [e3 s g2]; exact g4, by rw [e3 s g2]; exact g5⟩)
      · exact Or.inr (Or.inr ⟨a, b, g1, g2, g3, g4, by rw [va_up_ne _ _ (by omega), va_up_ne _ _ (by omega)]; exact g5, g6⟩)
  · by_cases z : i = n
    · by_cases y : j = n
      · omega
      · rw [z, va_up_self, va_up_ne _ _ y] at e
        exact absurd e.symm (hT j (by omega))
    · by_cases y : j = n
      · rw [y, va_up_self, va_up_ne _ _ z] at e
        exact absurd e (hT i (by omega))
      · rw [va_up_ne _ _ z, va_up_ne _ _ y] at e
        exact h4 i j (by omega) (by omega) e
  · obtain ⟨ch, g1, g2, g3⟩ := h5 p hp
    have gk : ch_R (upd nx n (hd q)) (hd p) ch := ch_R.keep ch _ (fun k hk => pk_un (by have := g2 k hk; omega)) g1
    by_cases z : p = q
    · subst z
      refine ⟨n :: ch, ⟨pk_us, by rw [pk_us]; exact gk⟩, fun k hk => ?_, fun i hi he => ?_⟩
      · rcases List.mem_cons.mp hk with e | e
        · omega
        · have := g2 k e; omega
      · by_cases y : i = n
        · rw [y]; exact List.mem_cons_self
        · rw [pk_un y] at he
          exact List.mem_cons_of_mem _ (g3 i (by omega) he)
    · refine ⟨ch, by rw [pk_un z]; exact gk, fun k hk => by have := g2 k hk; omega, fun i hi he => ?_⟩
      by_cases y : i = n
      · rw [y, pk_us] at he
        exact absurd (nI_inj (by omega) (by omega) he).symm z
      · rw [pk_un y] at he
        exact g3 i (by omega) he
