/-! THE ABSTRACT MACHINE: cells are numbered by their place in a list, references in cells, locals and on the stack are these numbers (those from 1000000 on name constant cells); a straight stretch of a method is one run of a function, by rfl. -/
abbrev am_C : Type := (Nat × vp_A) ⊕ (Nat × List Value)
abbrev am_H : Type := List am_C
abbrev am_L : Type := List (Option Value)
abbrev am_G : Type := va_G × (Nat → ClassId)
/-- pc, instruction, the next one's pc, two numbers (a branch's target; a field's class and place), a constant -/
abbrev am_row : Type := Nat × Instr × Nat × Nat × Nat × Value
/-- code, class, locals, answer, whether it is a constructor, rows -/
abbrev am_M : Type := ByteArray × String × Nat × Option FieldType × Bool × List am_row
def am_v (μ : Nat → Nat) : Value → Value
  | .ref k => .ref (μ k)
  | v => v
theorem am_v_cat (μ : Nat → Nat) (v : Value) : (am_v μ v).category = v.category := by cases v <;> rfl
def am_e (cA : Nat → ClassId) (μ : Nat → Nat) : am_C → va_E
  | .inl (t, a) => .inl (cA t, a)
  | .inr (c, fs) => .inr (c, fs.map (am_v μ))
def am_W (cA : Nat → ClassId) (μ : Nat → Nat) : Nat → am_H → va_W
  | _, [] => []
  | i, c :: h => (μ i, am_e cA μ c) :: am_W cA μ (i + 1) h
theorem am_W_get (cA : Nat → ClassId) (μ : Nat → Nat) : ∀ (h : am_H) (i k : Nat), (am_W cA μ i h)[k]? = (h[k]?).map (fun c => (μ (i + k), am_e cA μ c)) := by
  intro h
  induction h with
  | nil => intro i k; simp [am_W]
  | cons c h ih =>
    intro i k
    cases k with
    | zero => simp [am_W]
    | succ k =>
      simp only [am_W, List.getElem?_cons_succ, ih]
      rw [show i + 1 + k = i + (k + 1) by omega]
theorem am_W_at {cA : Nat → ClassId} {μ : Nat → Nat} {h : am_H} {k : Nat} {c : am_C} (hc : h[k]? = some c) : (am_W cA μ 0 h)[k]? = some (μ k, am_e cA μ c) := by
  rw [am_W_get, hc]
  simp
theorem am_W_of {cA : Nat → ClassId} {μ : Nat → Nat} {h : am_H} {k : Nat} {q : Nat × va_E} (hq : (am_W cA μ 0 h)[k]? = some q) : ∃ c, h[k]? = some c ∧ q = (μ k, am_e cA μ c) := by
  rw [am_W_get] at hq
  cases hc : h[k]? with
  | none => rw [hc] at hq; cases hq
  | some c =>
    rw [hc] at hq
    refine ⟨c, rfl, ?_⟩
    have := Option.some.inj hq
    rw [← this]
    simp
theorem am_W_set (cA : Nat → ClassId) (μ : Nat → Nat) (c : am_C) : ∀ (h : am_H) (i k : Nat), (am_W cA μ i h).set k (μ (i + k), am_e cA μ c) = am_W cA μ i (h.set k c) := by
  intro h
  induction h with
  | nil => intro i k; simp [am_W]
  | cons d h ih =>
    intro i k
    cases k with
    | zero => simp [am_W]
    | succ k =>
      simp only [am_W, List.set_cons_succ]
      rw [← ih (i + 1) k, show i + 1 + k = i + (k + 1) by omega]
theorem am_W_set0 (cA : Nat → ClassId) (μ : Nat → Nat) (c : am_C) (h : am_H) (k : Nat) : (am_W cA μ 0 h).set k (μ k, am_e cA μ c) = am_W cA μ 0 (h.set k c) := by
  have := am_W_set cA μ c h 0 k
  rwa [Nat.zero_add] at this
theorem am_W_app (cA : Nat → ClassId) (μ : Nat → Nat) (g : am_H) : ∀ (h : am_H) (i : Nat), am_W cA μ i (h ++ g) = am_W cA μ i h ++ am_W cA μ (i + h.length) g := by
  intro h
  induction h with
  | nil => intro i; simp [am_W]
  | cons c h ih =>
    intro i
    simp only [List.cons_append, am_W, ih, List.length_cons]
    rw [show i + 1 + h.length = i + (h.length + 1) by omega]
theorem am_W_congr {cA : Nat → ClassId} {μ ν : Nat → Nat} : ∀ (h : am_H) (i : Nat), (∀ k, i ≤ k → k < i + h.length → μ k = ν k) → (∀ c ∈ h, am_e cA μ c = am_e cA ν c) → am_W cA μ i h = am_W cA ν i h := by
  intro h
  induction h with
  | nil => intro i _ _; rfl
  | cons c h ih =>
    intro i h1 h2
    simp only [am_W]
    rw [h1 i (Nat.le_refl _) (by simp), h2 c List.mem_cons_self, ih (i + 1) (fun k a b => h1 k (by omega) (by simp; omega)) (fun c hc => h2 c (List.mem_cons_of_mem _ hc))]
/-- references that name cells -/
def am_okV (n : Nat) : Value → Prop
  | .ref k => @LT.lt Nat _ k n ∨ @LE.le Nat _ 1000000 k
  | _ => True
def am_okC (n : Nat) : am_C → Prop
  | .inl _ => True
  | .inr q => ∀ v ∈ q.2, am_okV n v
def am_okH (n : Nat) (h : am_H) : Prop := ∀ c ∈ h, am_okC n c
def am_okS (n : Nat) (st : List Value) : Prop := ∀ v ∈ st, am_okV n v
def am_okL (n : Nat) (ls : am_L) : Prop := ∀ v, some v ∈ ls → am_okV n v
def am_ag (n : Nat) (μ ν : Nat → Nat) : Prop := ∀ k, (k < n ∨ 1000000 ≤ k) → ν k = μ k
theorem am_okV.mono {n n2 : Nat} (hn : n ≤ n2) {v : Value} (h : am_okV n v) : am_okV n2 v := by
  cases v with
  | ref k => exact Or.imp (fun q => Nat.lt_of_lt_of_le q hn) id h
  | _ => trivial
theorem am_okC.mono {n n2 : Nat} (hn : n ≤ n2) {c : am_C} (h : am_okC n c) : am_okC n2 c := by
  cases c with
  | inl _ => trivial
  | inr q => exact fun v hv => (h v hv).mono hn
theorem am_v_ag {n : Nat} {μ ν : Nat → Nat} (h : am_ag n μ ν) {v : Value} (hv : am_okV n v) : am_v ν v = am_v μ v := by
  cases v <;> first | rfl | (simp only [am_v]; rw [h _ hv])
theorem am_e_ag {n : Nat} {μ ν : Nat → Nat} (cA : Nat → ClassId) (h : am_ag n μ ν) {c : am_C} (hc : am_okC n c) : am_e cA ν c = am_e cA μ c := by
  cases c with
  | inl _ => rfl
  | inr q =>
    obtain ⟨ci, fs⟩ := q
    simp only [am_e]
    congr 2
    exact List.map_congr_left fun v hv => am_v_ag h (hc v hv)
theorem am_S_ag {n : Nat} {μ ν : Nat → Nat} (h : am_ag n μ ν) {st : List Value} (hs : am_okS n st) : st.map (am_v ν) = st.map (am_v μ) := List.map_congr_left fun v hv => am_v_ag h (hs v hv)
theorem am_W_ag {n : Nat} {μ ν : Nat → Nat} (cA : Nat → ClassId) (h : am_ag n μ ν) {hh : am_H} (hl : hh.length ≤ n) (hc : am_okH n hh) : am_W cA ν 0 hh = am_W cA μ 0 hh := am_W_congr hh 0 (fun k _ hk => h k (Or.inl (by omega))) (fun c hcc => am_e_ag cA h (hc c hcc))
theorem am_ag.trans {n n2 : Nat} {μ ν ξ : Nat → Nat} (h : am_ag n μ ν) (h2 : am_ag n2 ν ξ) (hn : n ≤ n2) : am_ag n μ ξ := fun k hk => (h2 k (hk.imp (fun q => by omega) id)).trans (h k hk)
/-- the locals -/
def am_ls (μ : Nat → Nat) (lsA : Array Slot) (nL : Nat) (ls : am_L) : Prop := lsA.size = nL ∧ lv_wf lsA ∧ ls.length = nL ∧ ∀ (i : Nat) (v : Value), ls[i]? = some (some v) → lsA[i]? = some (.val (am_v μ v))
def am_as (μ : Nat → Nat) (ls : am_L) : List (Nat × Value) := (List.range ls.length).filterMap (fun i => match ls[i]? with
  | some (some v) => some (i, am_v μ v)
  | _ => none)
theorem am_as_mem {μ : Nat → Nat} {ls : am_L} {q : Nat × Value} : q ∈ am_as μ ls ↔ ∃ v, ls[q.1]? = some (some v) ∧ q.2 = am_v μ v := by
  unfold am_as
  rw [List.mem_filterMap]
  constructor
  · rintro ⟨i, -, hi⟩
    split at hi
    · rename_i v hv
      cases hi
      exact ⟨v, hv, rfl⟩
    · cases hi
  · rintro ⟨v, hv, h2⟩
    refine ⟨q.1, List.mem_range.mpr (List.getElem?_eq_some_iff.mp hv).1, ?_⟩
    rw [hv]
    simp [← h2]
theorem am_ls.has {μ : Nat → Nat} {lsA : Array Slot} {nL : Nat} {ls : am_L} (h : am_ls μ lsA nL ls) : lv_has lsA nL (am_as μ ls) := by
  refine ⟨h.1, h.2.1, fun q hq => ?_⟩
  obtain ⟨v, h1, h2⟩ := am_as_mem.mp hq
  rw [h2]
  exact h.2.2.2 _ _ h1
/-- no long ends at this place -/
def am_low (ls : am_L) : Nat → Bool
  | 0 => true
  | j + 1 => match ls[j]? with
    | some (some v) => !(Nat.beq v.category 2)
    | _ => true
theorem am_low_ne {ls : am_L} {i j : Nat} {v : Value} (h : am_low ls i = true) (hv : ls[j]? = some (some v)) (hj : j + 1 = i) : ¬ v.category = 2 := by
  subst hj
  simp only [am_low, hv] at h
  intro e
  rw [e] at h
  cases h
theorem am_ls.of1 {μ : Nat → Nat} {lsA ls' : Array Slot} {nL i : Nat} {ls : am_L} {v : Value} (h : am_ls μ lsA nL ls) (hg : am_low ls i = true) (hl : lv_has ls' nL ((i, am_v μ v) :: (am_as μ ls).filter (fun q => !(q.1 == i) && !(q.1 + 1 == i && q.2.category == 2)))) : am_ls μ ls' nL (ls.set i (some v)) := by
  refine ⟨hl.1, hl.2.1, by rw [List.length_set]; exact h.2.2.1, fun j w hw => ?_⟩
  by_cases hj : j = i
  · subst hj
    have hlt : j < ls.length := by
      have := (List.getElem?_eq_some_iff.mp hw).1
      rwa [List.length_set] at this
    rw [List.getElem?_set_self hlt] at hw
    cases hw
    exact hl.2.2 _ List.mem_cons_self
  · rw [List.getElem?_set_ne (fun e => hj e.symm)] at hw
    refine hl.2.2 (j, am_v μ w) (List.mem_cons_of_mem _ (List.mem_filter.mpr ⟨am_as_mem.mpr ⟨w, hw, rfl⟩, ?_⟩))
    simp only [am_v_cat]
    by_cases h2 : j + 1 = i
    · have := am_low_ne hg hw h2
      simp [hj, this]
    · simp [hj, h2]
theorem am_ls.of2 {μ : Nat → Nat} {lsA ls' : Array Slot} {nL i : Nat} {ls : am_L} {v : Value} (h : am_ls μ lsA nL ls) (hg : am_low ls i = true) (hl : lv_has ls' nL ((i, am_v μ v) :: (am_as μ ls).filter (fun q => !(q.1 == i) && (!(q.1 == i + 1) && !(q.1 + 1 == i && q.2.category == 2))))) : am_ls μ ls' nL ((ls.set i (some v)).set (i + 1) none) := by
  refine ⟨hl.1, hl.2.1, by rw [List.length_set, List.length_set]; exact h.2.2.1, fun j w hw => ?_⟩
  by_cases h1 : j = i + 1
  · subst h1
    have hlt : i + 1 < (ls.set i (some v)).length := by
      have := (List.getElem?_eq_some_iff.mp hw).1
      rwa [List.length_set] at this
    rw [List.getElem?_set_self hlt] at hw
    cases hw
  · rw [List.getElem?_set_ne (fun e => h1 e.symm)] at hw
    by_cases hj : j = i
    · subst hj
      have hlt : j < ls.length := by
        have := (List.getElem?_eq_some_iff.mp hw).1
        rwa [List.length_set] at this
      rw [List.getElem?_set_self hlt] at hw
      cases hw
      exact hl.2.2 _ List.mem_cons_self
    · rw [List.getElem?_set_ne (fun e => hj e.symm)] at hw
      refine hl.2.2 (j, am_v μ w) (List.mem_cons_of_mem _ (List.mem_filter.mpr ⟨am_as_mem.mpr ⟨w, hw, rfl⟩, ?_⟩))
      simp only [am_v_cat]
      by_cases h2 : j + 1 = i
      · have := am_low_ne hg hw h2
        simp [hj, h1, this]
      · simp [hj, h1, h2]
theorem am_ls_ag {n : Nat} {μ ν : Nat → Nat} (h : am_ag n μ ν) {lsA : Array Slot} {nL : Nat} {ls : am_L} (hs : am_okL n ls) (hl : am_ls μ lsA nL ls) : am_ls ν lsA nL ls := by
  refine ⟨hl.1, hl.2.1, hl.2.2.1, fun i v hv => ?_⟩
  rw [am_v_ag h (hs v (List.mem_of_getElem? hv))]
  exact hl.2.2.2 i v hv
