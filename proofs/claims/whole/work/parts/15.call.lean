/-! the entry -/
def am_ent : List Value → am_L
  | [] => []
  | v :: vs => cond (Nat.beq v.category 2) (some v :: none :: am_ent vs) (some v :: am_ent vs)
def am_pad (n : Nat) (ls : am_L) : am_L := ls ++ List.replicate (n - ls.length) none
theorem am_ent_args (μ : Nat → Nat) : ∀ (vs : List Value) (i j : Nat) (v : Value), (am_ent vs)[j]? = some (some v) → (i + j, am_v μ v) ∈ lv_args i (vs.map (am_v μ)) := by
  intro vs
  induction vs with
  | nil => intro i j v h; simp [am_ent] at h
  | cons w vs ih =>
    intro i j v h
    simp only [List.map_cons, lv_args, am_v_cat]
    unfold am_ent at h
    cases hb : Nat.beq w.category 2 with
    | true =>
      rw [hb] at h
      have hc := Nat.eq_of_beq_eq_true hb
      rw [if_pos hc]
      match j, h with
      | 0, h => cases h; exact List.mem_cons_self
      | 1, h => cases h
      | j + 2, h =>
        have := ih (i + 2) j v h
        rw [show i + 2 + j = i + (j + 2) by omega] at this
        exact List.mem_cons_of_mem _ this
    | false =>
      rw [hb] at h
      have hc : ¬ w.category = 2 := fun z => by rw [z] at hb; cases hb
      rw [if_neg hc]
      match j, h with
      | 0, h => cases h; exact List.mem_cons_self
      | j + 1, h =>
        have := ih (i + 1) j v h
        rw [show i + 1 + j = i + (j + 1) by omega] at this
        exact List.mem_cons_of_mem _ this
theorem am_ent_mem : ∀ (vs : List Value) (v : Value), some v ∈ am_ent vs → v ∈ vs := by
  intro vs
  induction vs with
  | nil => intro v h; cases h
  | cons w vs ih =>
    intro v h
    unfold am_ent at h
    cases hb : Nat.beq w.category 2 <;> rw [hb] at h <;> simp only [cond] at h
    · rcases List.mem_cons.mp h with e | h
      · cases e; exact List.mem_cons_self
      · exact List.mem_cons_of_mem _ (ih v h)
    · rcases List.mem_cons.mp h with e | h
      · cases e; exact List.mem_cons_self
      · rcases List.mem_cons.mp h with e | h
        · cases e
        · exact List.mem_cons_of_mem _ (ih v h)
theorem am_ent_len (μ : Nat → Nat) : ∀ vs : List Value, (lg_sl (vs.map (am_v μ))).length = (am_ent vs).length := by
  intro vs
  induction vs with
  | nil => rfl
  | cons v vs ih =>
    have e : (lg_sl ((v :: vs).map (am_v μ))).length = (if (am_v μ v).category = 2 then 2 else 1) + (lg_sl (vs.map (am_v μ))).length := by
      simp only [lg_sl, List.map_cons, List.flatMap_cons, List.length_append]
      split <;> rfl
    have e2 : (am_ent (v :: vs)).length = (if v.category = 2 then 2 else 1) + (am_ent vs).length := by
      rw [show am_ent (v :: vs) = cond (Nat.beq v.category 2) (some v :: none :: am_ent vs) (some v :: am_ent vs) from rfl]
      cases hb : Nat.beq v.category 2 with
      | true =>
        rw [if_pos (Nat.eq_of_beq_eq_true hb)]
        simp only [cond, List.length_cons]
        omega
      | false =>
        rw [if_neg (fun z => by rw [z] at hb; cases hb)]
        simp only [cond, List.length_cons]
        omega
    rw [e, e2, ih, am_v_cat]
set_option maxHeartbeats 4000000 in
theorem Con.of {l : Launch} {y : MethodName} {M : am_M} {fr lo : Nat} {av : List Value} {h : am_H} {n0 gl mc ms : Nat} {Post : Option Value → am_H → Prop} (hy : plainName y.cls = true) (hcl : y.cls = M.2.1) (hM : am_okM M = true) (hi : M.2.2.2.2.1 = true → y.name = "<init>") (hl : Nat.ble (am_ent av).length M.2.2.1 = true) (hn0 : Nat.ble n0 h.length = true) (hav : ∀ v ∈ av, am_okV h.length v)
    (body : ∀ (p : Program) (e : Env) (s : State) (m : MethodId) (args : Array Value) (below : List Frame) (meth : Method) (c : Code) (G : am_G) (μ0 : Nat → Nat), AW p l e { frames := fr, cells := mc, slots := ms, locals := lo } s m args below meth c (am_Q below args s G μ0 h n0 gl Post mc ms) (va_A (am_W G.2 μ0 0 h) s.heap.size) s.heap G μ0 n0 M 0 0 0 (am_pad M.2.2.1 (am_ent av)) [] h) : Con l y M fr lo av h n0 gl mc ms Post := by
  intro G μ sz
  refine Met.ofW (cc := M.1) (maxL := M.2.2.1) (ret := M.2.2.2.1) hy rfl ?_
  intro p e s m args below meth c s₁ B hml hv
  obtain ⟨rfl, hsz, hP, hK, hD0, hok, hlen, hRO⟩ := hv
  have hts0 := atoms_spec (ws := am_ws y M) B.pre
  have hts : ∀ w ∈ am_tb, w.before (av.map (am_v μ)).toArray s = true := fun w hw => hts0 w (List.mem_cons_of_mem _ hw)
  have hown : s.vm.findClass y.cls = some m.cls := findClass_of_methodNamed B.named
  have hin : M.2.2.2.2.1 = true → meth.name = "<init>" := fun q => (name_of_methodNamed B.named B.method).1.trans (hi q)
  subst hsz
  have hD := hD0.self (sz := s.heap.size)
  rw [hcl] at hown
  have hle : (lg_sl (av.map (am_v μ))).length ≤ M.2.2.1 := by rw [am_ent_len]; exact Nat.le_of_ble_eq_true hl
  have hlv := lv_entry (av.map (am_v μ)) (n := M.2.2.1) hle
  rw [lg_entry_eq]
  have hL := Nat.le_of_ble_eq_true hl
  refine body p e s m _ below meth c G μ ⟨B.exec, B.bytes, hml, hown, hts, hK, hM, B.notSynchronized, B.returns, hin⟩ (fun q hq => Or.inr hq) μ s.heap [] _ ⟨hP, hD, va_S.rf, fun _ _ => rfl, ⟨hlv.1, hlv.2.1, ?_, ?_⟩, hok, ?_, (fun v hv => nomatch hv), hlen, Nat.le_of_ble_eq_true hn0, hRO⟩
  · simp only [am_pad, List.length_append, List.length_replicate]
    omega
  · intro i v hv
    have : (am_ent av)[i]? = some (some v) := by
      unfold am_pad at hv
      rcases Nat.lt_or_ge i (am_ent av).length with hi | hi
      · rwa [List.getElem?_append_left hi] at hv
      · rw [List.getElem?_append_right hi] at hv
        have := List.mem_of_getElem? hv
        rw [List.mem_replicate] at this
        cases this.2
    have h2 := am_ent_args μ av 0 i v this
    rw [Nat.zero_add] at h2
    exact hlv.2.2 _ h2
  · intro v hv
    unfold am_pad at hv
    rcases List.mem_append.mp hv with h1 | h1
    · exact hav v (am_ent_mem av v h1)
    · rw [List.mem_replicate] at h1
      cases h1.2
/-! calls: the callee's cells are the caller's at the places is -/
def am_pos : List Nat → Nat → Nat → Option Nat
  | [], _, _ => none
  | i :: is, k, j => cond (Nat.beq i k) (some j) (am_pos is k (j + 1))
theorem am_pos_some : ∀ (is : List Nat) (k j a : Nat), am_pos is k a = some j → ∃ i, j = a + i ∧ is[i]? = some k := by
  intro is
  induction is with
  | nil => intro k j a h; cases h
  | cons i is ih =>
    intro k j a h
    unfold am_pos at h
    cases hb : Nat.beq i k with
    | true =>
      rw [hb] at h
      cases h
      exact ⟨0, rfl, by rw [Nat.eq_of_beq_eq_true hb]; rfl⟩
    | false =>
      rw [hb] at h
      obtain ⟨i2, h1, h2⟩ := ih k j (a + 1) h
      exact ⟨i2 + 1, by omega, h2⟩
theorem am_pos_none : ∀ (is : List Nat) (k a : Nat), am_pos is k a = none → k ∉ is := by
  intro is
  induction is with
  | nil => intro k a _ h; cases h
  | cons i is ih =>
    intro k a h hm
    unfold am_pos at h
    cases hb : Nat.beq i k with
    | true => rw [hb] at h; cases h
    | false =>
      rw [hb] at h
      rcases List.mem_cons.mp hm with e | hm
      · subst e
        have : Nat.beq k k = true := Nat.beq_refl k
        rw [this] at hb
        cases hb
      · exact ih k (a + 1) h hm
/-- no place twice -/
def am_ndb (is : List Nat) : Bool := (List.range is.length).all (fun j => match is[j]? with
  | some k => (match am_pos is k 0 with
    | some i => Nat.beq i j
    | none => false)
  | none => true)
theorem am_pos_at {is : List Nat} (hn : am_ndb is = true) {k j : Nat} (h : is[j]? = some k) : am_pos is k 0 = some j := by
  have h1 := List.all_eq_true.mp hn j (List.mem_range.mpr (List.getElem?_eq_some_iff.mp h).1)
  rw [h] at h1
  dsimp only at h1
  cases hp : am_pos is k 0 with
  | none => rw [hp] at h1; cases h1
  | some i =>
    rw [hp] at h1
    rw [Nat.eq_of_beq_eq_true h1]
def am_ren (is : List Nat) : Value → Value
  | .ref k => .ref (cond (Nat.blt k 1000000) (is.getD k 0) k)
  | v => v
def am_renC (is : List Nat) : am_C → am_C
  | .inl a => .inl a
  | .inr (ci, fs) => .inr (ci, fs.map (am_ren is))
/-- the callee's view of places -/
def am_in (is : List Nat) (μ : Nat → Nat) : Nat → Nat := fun k => cond (Nat.blt k 1000000) (μ (is.getD k 0)) (μ k)
theorem am_ren_v (is : List Nat) (μ : Nat → Nat) (v : Value) : am_v (am_in is μ) v = am_v μ (am_ren is v) := by
  cases v <;> try rfl
  rename_i k
  simp only [am_v, am_ren, am_in]
  cases Nat.blt k 1000000 <;> rfl
theorem am_ren_e (cA : Nat → ClassId) (is : List Nat) (μ : Nat → Nat) (d : am_C) : am_e cA (am_in is μ) d = am_e cA μ (am_renC is d) := by
  cases d with
  | inl a => rfl
  | inr q =>
    obtain ⟨ci, fs⟩ := q
    simp only [am_e, am_renC, List.map_map]
    congr 2
    exact List.map_congr_left fun v _ => am_ren_v is μ v
/-- the caller's cells behind the call -/
def am_bk (is is2 : List Nat) (hc : am_H) : Nat → am_H → am_H
  | _, [] => []
  | k, d :: h => (match am_pos is k 0 with
    | some j => (match hc[j]? with
      | some x => am_renC is2 x
      | none => d)
    | none => d) :: am_bk is is2 hc (k + 1) h
theorem am_bk_len (is is2 : List Nat) (hc : am_H) : ∀ (h : am_H) (i : Nat), (am_bk is is2 hc i h).length = h.length := by
  intro h
  induction h with
  | nil => intro i; rfl
  | cons d h ih => intro i; simp only [am_bk, List.length_cons, ih]
theorem am_bk_get (is is2 : List Nat) (hc : am_H) : ∀ (h : am_H) (i k : Nat), (am_bk is is2 hc i h)[k]? = (h[k]?).map (fun d => match am_pos is (i + k) 0 with
    | some j => (match hc[j]? with
      | some x => am_renC is2 x
      | none => d)
    | none => d) := by
  intro h
  induction h with
  | nil => intro i k; simp [am_bk]
  | cons d h ih =>
    intro i k
    cases k with
    | zero => simp [am_bk]
    | succ k =>
      simp only [am_bk, List.getElem?_cons_succ, ih]
      rw [show i + 1 + k = i + (k + 1) by omega]
def am_is2 (is : List Nat) (hl gl : Nat) : List Nat := is ++ (List.range gl).map (fun i => hl + i)
def am_back (is : List Nat) (gl : Nat) (h hc : am_H) : am_H := am_bk is (am_is2 is h.length gl) hc 0 h ++ (hc.drop is.length).map (am_renC (am_is2 is h.length gl))
/-- no reference to these places -/
def am_nr (pv : List Nat) : Value → Bool
  | .ref k => !(pv.elem k)
  | _ => true
def am_nrC (pv : List Nat) : am_C → Bool
  | .inl _ => true
  | .inr q => q.2.all (am_nr pv)
def am_nrL (pv : List Nat) : Option Value → Bool
  | some v => am_nr pv v
  | none => true
def am_frm (is pv : List Nat) : Nat → am_H → Bool
  | _, [] => true
  | k, d :: h => (is.elem k || am_nrC pv d) && am_frm is pv (k + 1) h
theorem am_frm_get (is pv : List Nat) : ∀ (h : am_H) (i k : Nat) (d : am_C), am_frm is pv i h = true → h[k]? = some d → i + k ∉ is → am_nrC pv d = true := by
  intro h
  induction h with
  | nil => intro i k d _ h2; cases h2
  | cons x h ih =>
    intro i k d h1 h2 h3
    simp only [am_frm, Bool.and_eq_true, Bool.or_eq_true] at h1
    cases k with
    | zero =>
      cases h2
      rcases h1.1 with h4 | h4
      · exact absurd (List.elem_iff.mp h4) h3
      · exact h4
    | succ k => exact ih (i + 1) k d h1.2 h2 (by rw [show i + 1 + k = i + (k + 1) by omega]; exact h3)
/-- where the cells lie behind the call -/
def am_out (is : List Nat) (hl cl : Nat) (μ ν : Nat → Nat) : Nat → Nat := fun k => if 1000000 ≤ k then μ k else match am_pos is k 0 with
  | some j => ν j
  | none => if k < hl then μ k else ν (cl + (k - hl))
theorem am_is2_lo {is : List Nat} {hl gl a k : Nat} (h : a < is.length) : (am_is2 is hl gl)[a]? = some k ↔ is[a]? = some k := by
  unfold am_is2
  rw [List.getElem?_append_left h]
theorem am_is2_hi {is : List Nat} {hl gl a k : Nat} (h : is.length ≤ a) : (am_is2 is hl gl)[a]? = some k ↔ a < is.length + gl ∧ k = hl + (a - is.length) := by
  unfold am_is2
  rw [List.getElem?_append_right h, List.getElem?_map]
  rcases Nat.lt_or_ge (a - is.length) gl with h2 | h2
  · rw [List.getElem?_range h2]
    simp only [Option.map_some, Option.some.injEq]
    constructor
    · intro e; exact ⟨by omega, e.symm⟩
    · intro e; exact e.2.symm
  · rw [List.getElem?_eq_none (by simp; omega)]
    simp only [Option.map_none]
    constructor
    · intro e; cases e
    · intro e; omega
section AMC
variable {is : List Nat} {h hc h' : am_H} {gl nc : Nat} {μ ν : Nat → Nat}
theorem am_out_is (hnd : am_ndb is = true) {a k cl : Nat} (hk : is[a]? = some k) (hs : k < 1000000) (hl : Nat) : am_out is hl cl μ ν k = ν a := by
  unfold am_out
  rw [if_neg (by omega), am_pos_at hnd hk]
theorem am_out_no {k cl hl : Nat} (hk : k ∉ is) (hs : k < 1000000) (h2 : k < hl) : am_out is hl cl μ ν k = μ k := by
  unfold am_out
  rw [if_neg (by omega)]
  cases hp : am_pos is k 0 with
  | some j =>
    obtain ⟨i, h1, h3⟩ := am_pos_some is k j 0 hp
    exact absurd (List.mem_of_getElem? h3) hk
  | none => simp only; rw [if_pos h2]
theorem am_out_new {k cl hl : Nat} (hk : k ∉ is) (hs : k < 1000000) (h2 : hl ≤ k) : am_out is hl cl μ ν k = ν (cl + (k - hl)) := by
  unfold am_out
  rw [if_neg (by omega)]
  cases hp : am_pos is k 0 with
  | some j =>
    obtain ⟨i, h1, h3⟩ := am_pos_some is k j 0 hp
    exact absurd (List.mem_of_getElem? h3) hk
  | none => simp only; rw [if_neg (by omega)]
theorem am_out_far {k cl hl : Nat} (hs : 1000000 ≤ k) : am_out is hl cl μ ν k = μ k := by
  unfold am_out
  rw [if_pos hs]
/-- a value that is outside the callee's private cells -/
theorem am_out_v (hnd : am_ndb is = true) (hil : is.length < 1000000) (hag : am_ag nc (am_in is μ) ν) (hsm : h.length < 1000000) {v : Value} (hv : am_okV h.length v) (hn : am_nr (is.drop nc) v = true) : am_v (am_out is h.length hc.length μ ν) v = am_v μ v := by
  cases v <;> try rfl
  rename_i k
  simp only [am_v]
  congr 1
  rcases hv with hv | hv
  · cases hp : am_pos is k 0 with
    | none => exact am_out_no (am_pos_none is k 0 hp) (by omega) hv
    | some j =>
      obtain ⟨i, h1, h3⟩ := am_pos_some is k j 0 hp
      rw [show j = i by omega] at hp
      rw [am_out_is hnd h3 (by omega)]
      rcases Nat.lt_or_ge i nc with h4 | h4
      · have hi : i < 1000000 := Nat.lt_trans (List.getElem?_eq_some_iff.mp h3).1 hil
        rw [hag i (Or.inl h4)]
        unfold am_in
        rw [show Nat.blt i 1000000 = true from Nat.ble_eq_true_of_le hi]
        simp only [cond]
        rw [List.getD_eq_getElem?_getD, h3]
        rfl
      · exfalso
        simp only [am_nr, Bool.not_eq_true'] at hn
        have : k ∈ is.drop nc := by
          refine List.mem_of_getElem? (i := i - nc) ?_
          rw [List.getElem?_drop, show nc + (i - nc) = i by omega]
          exact h3
        rw [List.elem_iff.mpr this] at hn
        cases hn
  · exact am_out_far hv
/-- a value of the callee's -/
theorem am_out_ren (hnd : am_ndb is = true) (hlen : is.length = hc.length) (hb : ∀ k ∈ is, k < h.length) (hag : am_ag nc (am_in is μ) ν) (hsm : h.length + gl < 1000000) {v : Value} (hv : am_okV (hc.length + gl) v) : am_v (am_out is h.length hc.length μ ν) (am_ren (am_is2 is h.length gl) v) = am_v ν v ∧ am_okV (h.length + gl) (am_ren (am_is2 is h.length gl) v) := by
  cases v <;> try exact ⟨rfl, trivial⟩
  rename_i k
  rcases Nat.lt_or_ge k 1000000 with hk | hk
  · have hk2 : @LT.lt Nat _ k (hc.length + gl) := by rcases hv with h1 | h1 <;> omega
    simp only [am_v, am_ren, am_okV, show Nat.blt k 1000000 = true from Nat.ble_eq_true_of_le hk, cond]
    rcases Nat.lt_or_ge k is.length with h1 | h1
    · have h2 : is[k]? = some is[k] := List.getElem?_eq_getElem h1
      have h3 : (am_is2 is h.length gl).getD k 0 = is[k] := by rw [List.getD_eq_getElem?_getD, (am_is2_lo h1).mpr h2]; rfl
      have h4 := hb _ (List.getElem_mem h1)
      rw [h3, am_out_is hnd h2 (by omega)]
      exact ⟨rfl, Or.inl (by omega)⟩
    · have h3 : (am_is2 is h.length gl).getD k 0 = h.length + (k - is.length) := by rw [List.getD_eq_getElem?_getD, (am_is2_hi h1).mpr ⟨by omega, rfl⟩]; rfl
      have h4 : h.length + (k - is.length) ∉ is := fun z => by have := hb _ z; omega
      rw [h3, am_out_new h4 (by omega) (by omega), show hc.length + (h.length + (k - is.length) - h.length) = k by omega]
      exact ⟨rfl, Or.inl (by omega)⟩
  · have h1 : Nat.blt k 1000000 = false := by
      cases hq : Nat.blt k 1000000 with
      | false => rfl
      | true => have := Nat.le_of_ble_eq_true hq; omega
    simp only [am_v, am_ren, am_okV, h1, cond]
    rw [am_out_far hk, hag k (Or.inr hk)]
    unfold am_in
    rw [h1]
    exact ⟨rfl, Or.inr hk⟩
theorem am_out_renC (cA : Nat → ClassId) (hnd : am_ndb is = true) (hlen : is.length = hc.length) (hb : ∀ k ∈ is, k < h.length) (hag : am_ag nc (am_in is μ) ν) (hsm : h.length + gl < 1000000) {d : am_C} (hd : am_okC (hc.length + gl) d) : am_e cA (am_out is h.length hc.length μ ν) (am_renC (am_is2 is h.length gl) d) = am_e cA ν d ∧ am_okC (h.length + gl) (am_renC (am_is2 is h.length gl) d) := by
  cases d with
  | inl q => exact ⟨rfl, trivial⟩
  | inr q =>
    obtain ⟨ci, fs⟩ := q
    refine ⟨?_, fun w hw => ?_⟩
    · simp only [am_e, am_renC, List.map_map]
      congr 2
      exact List.map_congr_left fun v hv => (am_out_ren hnd hlen hb hag hsm (hd v hv)).1
    · obtain ⟨v, hv, rfl⟩ := List.mem_map.mp hw
      exact (am_out_ren hnd hlen hb hag hsm (hd v hv)).2
/-- every cell behind the call is the callee's, or was there and no place of the callee's -/
theorem am_back_of (hnd : am_ndb is = true) (hlen : is.length = hc.length) (hb : ∀ k ∈ is, k < h.length) (hl' : h'.length = hc.length + gl) {k : Nat} {d : am_C} (hd : (am_back is gl h h')[k]? = some d) : (∃ (a : Nat) (x : am_C), (am_is2 is h.length gl)[a]? = some k ∧ h'[a]? = some x ∧ d = am_renC (am_is2 is h.length gl) x) ∨ (k ∉ is ∧ h[k]? = some d) := by
  unfold am_back at hd
  rcases Nat.lt_or_ge k h.length with h1 | h1
  · rw [List.getElem?_append_left (by rw [am_bk_len]; exact h1), am_bk_get] at hd
    have h2 : h[k]? = some h[k] := List.getElem?_eq_getElem h1
    rw [h2] at hd
    simp only [Option.map_some, Option.some.injEq, Nat.zero_add] at hd
    cases hp : am_pos is k 0 with
    | none =>
      rw [hp] at hd
      refine Or.inr ⟨am_pos_none is k 0 hp, ?_⟩
      rw [h2]
      exact congrArg some hd
    | some j =>
      rw [hp] at hd
      obtain ⟨i, h3, h4⟩ := am_pos_some is k j 0 hp
      have h5 : i < is.length := (List.getElem?_eq_some_iff.mp h4).1
      have h6 : h'[j]? = some (h'[j]'(by omega)) := List.getElem?_eq_getElem (by omega)
      simp only [h6] at hd
      exact Or.inl ⟨j, _, (am_is2_lo (by omega)).mpr (by rw [show j = i by omega]; exact h4), h6, hd.symm⟩
  · rw [List.getElem?_append_right (by rw [am_bk_len]; exact h1), am_bk_len, List.getElem?_map, List.getElem?_drop] at hd
    obtain ⟨x, hx, hd⟩ := Option.map_eq_some_iff.mp hd
    have hlt := (List.getElem?_eq_some_iff.mp hx).1
    exact Or.inl ⟨is.length + (k - h.length), x, (am_is2_hi (by omega)).mpr ⟨by omega, by omega⟩, hx, hd.symm⟩
theorem am_back_len (hlen : is.length = hc.length) (hl' : h'.length = hc.length + gl) : (am_back is gl h h').length = h.length + gl := by
  unfold am_back
  rw [List.length_append, am_bk_len, List.length_map, List.length_drop]
  omega
end AMC
section AMD
variable {p : Program} {l : Launch} {e : Env} {R : Room} {s : State} {m : MethodId} {args : Array Value} {below : List Frame} {meth : Method} {c : Code} {Q : State → Prop} {A : Nat → Prop} {H0 : Heap} {G : am_G} {μ0 : Nat → Nat} {n0 : Nat} {M : am_M} {k n pc : Nat} {ls : am_L} {h : am_H}
set_option maxHeartbeats 4000000 in
theorem aw_callR {is : List Nat} {hc : am_H} {nc gl mc ms : Nat} {Post : Option Value → am_H → Prop} {st0 rest : List Value} {av : Array Value} (hnd : am_ndb is = true) (hil : is.length < 1000000) (hat0 : is.map (fun i => h[i]?) = hc.map (fun d => some (am_renC is d))) (hpv : (is.drop nc).all (Nat.ble n0) = true) (hfrm : am_frm is (is.drop nc) 0 h = true) (hls : ls.all (am_nrL (is.drop nc)) = true) (hrs : rest.all (am_nr (is.drop nc)) = true) (hsub : ∀ v ∈ rest, v ∈ st0) (hsm : h.length + gl < 1000000)
    (run : ∀ (μ : Nat → Nat) (H : Heap) (locs : List Loc) (lsA : Array Slot), am_Fix p s m args meth c G M → (∀ q, H0.size ≤ q → A q) → am_At s A H0 G μ0 n0 M μ H locs lsA ls st0 h → va_Run p l e R s m args below meth c H locs k n mc ms (F0 m pc lsA (st0.map (am_v μ))) (rest.map (am_v μ)) (am_Post G (am_in is μ) hc nc gl H.size Post av) (va_A (am_W G.2 (am_in is μ) 0 hc) H.size))
    (K : ∀ (r : Option Value) (h' : am_H), Post r h' → h'.length = hc.length + gl → AW p l e R s m args below meth c Q A H0 G μ0 n0 M (k + mc) (n + ms) (pc + 3) ls ((r.map (am_ren (am_is2 is h.length gl))).toList ++ rest) (am_back is gl h h')) : AW p l e R s m args below meth c Q A H0 G μ0 n0 M k n pc ls st0 h := by
  intro F hA μ H locs lsA hat
  obtain ⟨hP, hD, hS, hag, hl, okH, okL, okS, hlen, hn0, hRO⟩ := id hat
  have hR := run μ H locs lsA F hA hat
  have hcl : is.length = hc.length := by
    have := congrArg List.length hat0
    simpa using this
  have hats : ∀ (j i : Nat), is[j]? = some i → ∃ d, hc[j]? = some d ∧ h[i]? = some (am_renC is d) := by
    intro j i hj
    have h1 : (is.map (fun i => h[i]?))[j]? = some (h[i]?) := by rw [List.getElem?_map, hj]; rfl
    rw [hat0, List.getElem?_map] at h1
    obtain ⟨d, hd, h2⟩ := Option.map_eq_some_iff.mp h1
    exact ⟨d, hd, h2.symm⟩
  have hb : ∀ i ∈ is, i < h.length := by
    intro i hi
    obtain ⟨j, hj⟩ := List.getElem?_of_mem hi
    obtain ⟨d, -, h2⟩ := hats j i hj
    exact (List.getElem?_eq_some_iff.mp h2).1
  -- the callee's cells are the caller's
  have hin : ∀ (j : Nat) (q : Nat × va_E), (am_W G.2 (am_in is μ) 0 hc)[j]? = some q → ∃ i, is[j]? = some i ∧ (am_W G.2 μ 0 h)[i]? = some q := by
    intro j q hq
    obtain ⟨d, hd, rfl⟩ := am_W_of hq
    have hj : j < is.length := by have := (List.getElem?_eq_some_iff.mp hd).1; omega
    have h1 : is[j]? = some is[j] := List.getElem?_eq_getElem hj
    obtain ⟨d2, hd2, h2⟩ := hats j _ h1
    rw [hd] at hd2
    cases hd2
    refine ⟨is[j], h1, ?_⟩
    rw [am_W_at h2, am_ren_e]
    congr 2
    unfold am_in
    rw [show Nat.blt j 1000000 = true from Nat.ble_eq_true_of_le (by omega)]
    simp only [cond]
    rw [List.getD_eq_getElem?_getD, h1]
    rfl
  have hFr : ∀ q, va_A (am_W G.2 (am_in is μ) 0 hc) H.size q → A q := by
    intro q hq
    rcases hq with ⟨j, ee, hj⟩ | hq
    · obtain ⟨i, -, hi⟩ := hin j _ hj
      exact hD.2 i _ hi
    · exact hA q (Nat.le_trans hS.1 hq)
  intro T hT X
  obtain ⟨v, st₀, t, T', L9, hh0, X', hL, e1, e2, ⟨⟨r, h', ν, hv, hp, hag2, hl', hsm', hok', hrok, hP1, hK1, hD1⟩, hz, hk1⟩, st⟩ := hR T hT X
  have hv : v = r.map (am_v ν) := by cases hv; rfl
  subst hv
  rw [hh0] at hz hk1
  have hS1 : va_S A H0 T'.heap (locs ++ L9) := ⟨Nat.le_trans hS.1 (by rw [e1]; exact hz), fun q h1 h2 => by
      rw [e1, hk1 q (Nat.lt_of_lt_of_le h1 hS.1) (fun z => h2 (hFr q z))]
      exact hS.2.1 q h1 h2, fun q hq => by
      rcases List.mem_append.mp hq with h | h
      · exact hS.2.2 q h
      · exact hFr _ (hL q h)⟩
  have hbl := am_back_len (is := is) (h := h) hcl hl'
  have hvo : ∀ v, am_okV h.length v → am_nr (is.drop nc) v = true → am_v (am_out is h.length hc.length μ ν) v = am_v μ v := fun v h1 h2 => am_out_v hnd hil hag2 hlen h1 h2
  have hren : ∀ v, am_okV (hc.length + gl) v → am_v (am_out is h.length hc.length μ ν) (am_ren (am_is2 is h.length gl) v) = am_v ν v ∧ am_okV (h.length + gl) (am_ren (am_is2 is h.length gl) v) := fun v hv => am_out_ren hnd hcl hb hag2 hsm hv
  rw [hl'] at hok' hrok
  have hcase : ∀ (i : Nat) (q : Nat × va_E), (am_W G.2 (am_out is h.length hc.length μ ν) 0 (am_back is gl h h'))[i]? = some q → (∃ a : Nat, (am_is2 is h.length gl)[a]? = some i ∧ (am_W G.2 ν 0 h')[a]? = some q) ∨ (i ∉ is ∧ i < h.length ∧ (am_W G.2 μ 0 h)[i]? = some q) := by
    intro i q hq
    obtain ⟨d, hd, rfl⟩ := am_W_of hq
    rcases am_back_of hnd hcl hb hl' hd with ⟨a, x, h1, h2, rfl⟩ | ⟨h1, h2⟩
    · refine Or.inl ⟨a, h1, ?_⟩
      rw [am_W_at h2, (am_out_renC G.2 hnd hcl hb hag2 hsm (hok' x (List.mem_of_getElem? h2))).1]
      congr 2
      have ha : a < h'.length := (List.getElem?_eq_some_iff.mp h2).1
      rcases Nat.lt_or_ge a is.length with h3 | h3
      · have h4 := (am_is2_lo h3).mp h1
        rw [am_out_is hnd h4 (by have := hb i (List.mem_of_getElem? h4); omega)]
      · obtain ⟨h4, h5⟩ := (am_is2_hi h3).mp h1
        rw [am_out_new (fun z => by have := hb i z; omega) (by omega) (by omega)]
        congr 1
        omega
    · have h3 : i < h.length := (List.getElem?_eq_some_iff.mp h2).1
      refine Or.inr ⟨h1, h3, ?_⟩
      rw [am_W_at h2, am_out_no h1 (by omega) h3]
      congr 2
      have h4 := am_frm_get is (is.drop nc) h 0 i d hfrm h2 (by rw [Nat.zero_add]; exact h1)
      cases d with
      | inl y => rfl
      | inr y =>
        obtain ⟨ci, fs⟩ := y
        simp only [am_e]
        congr 2
        exact List.map_congr_left fun w hw => (hvo w (okH _ (List.mem_of_getElem? h2) w hw) (List.all_eq_true.mp h4 w hw)).symm
  have hnotin : ∀ (i : Nat) (q : Nat × va_E), i ∉ is → (am_W G.2 μ 0 h)[i]? = some q → ¬ va_A (am_W G.2 (am_in is μ) 0 hc) H.size q.1 := by
    intro i q hi hq hz
    rcases hz with ⟨j, ee, hj⟩ | hz
    · obtain ⟨i2, h1, h2⟩ := hin j _ hj
      have := hD.1 i i2 _ _ hq h2 rfl
      subst this
      exact hi (List.mem_of_getElem? h1)
    · have := (hP i _ hq).lt
      omega
  have hP2 : va_P G.1 vwCl (am_W G.2 (am_out is h.length hc.length μ ν) 0 (am_back is gl h h')) T'.heap := by
    intro i q hq
    rcases hcase i q hq with ⟨a, h1, h2⟩ | ⟨h1, h2, h3⟩
    · rw [e1]; exact hP1 a q h2
    · refine (hP i q h3).kept ?_
      rw [e1]
      exact hk1 q.1 ((hP i _ h3).lt) (hnotin i q h1 h3)
  have hD2 : va_D A (am_W G.2 (am_out is h.length hc.length μ ν) 0 (am_back is gl h h')) := by
    refine ⟨fun i j x y hx hy hxy => ?_, fun i q hq => ?_⟩
    · rcases hcase i x hx with ⟨a, h1, h2⟩ | ⟨h1, h2, h3⟩
      · rcases hcase j y hy with ⟨a', g1, g2⟩ | ⟨g1, g2, g3⟩
        · have := hD1.1 a a' _ _ h2 g2 hxy
          subst this
          exact Option.some.inj (h1.symm.trans g1)
        · exact absurd (by rw [← hxy]; exact hD1.2 a _ h2) (hnotin j y g1 g3)
      · rcases hcase j y hy with ⟨a', g1, g2⟩ | ⟨g1, g2, g3⟩
        · exact absurd (by rw [hxy]; exact hD1.2 a' _ g2) (hnotin i x h1 h3)
        · exact hD.1 i j _ _ h3 g3 hxy
    · rcases hcase i q hq with ⟨a, h1, h2⟩ | ⟨h1, h2, h3⟩
      · exact hFr _ (hD1.2 a _ h2)
      · exact hD.2 i _ h3
  have hag3 : am_ag n0 μ0 (am_out is h.length hc.length μ ν) := by
    intro i hi
    rw [← hag i hi]
    rcases hi with hi | hi
    · cases hp2 : am_pos is i 0 with
      | none => exact am_out_no (am_pos_none is i 0 hp2) (by omega) (by omega)
      | some j =>
        obtain ⟨a, h1, h3⟩ := am_pos_some is i j 0 hp2
        have hnr : am_nr (is.drop nc) (.ref i) = true := by
          simp only [am_nr, Bool.not_eq_true']
          cases he : (is.drop nc).elem i with
          | false => rfl
          | true =>
            have := Nat.le_of_ble_eq_true (List.all_eq_true.mp hpv i (List.elem_iff.mp he))
            omega
        have := hvo (.ref i) (Or.inl (by omega)) hnr
        simp only [am_v, Value.ref.injEq] at this
        exact this
    · exact am_out_far hi
  have hl2 : am_ls (am_out is h.length hc.length μ ν) lsA M.2.2.1 ls := by
    refine ⟨hl.1, hl.2.1, hl.2.2.1, fun i w hw => ?_⟩
    have hm := List.mem_of_getElem? hw
    rw [hvo w (okL w hm) (List.all_eq_true.mp hls _ hm)]
    exact hl.2.2.2 i w hw
  have hok2 : am_okH (am_back is gl h h').length (am_back is gl h h') := by
    intro d hd
    obtain ⟨i, hi⟩ := List.getElem?_of_mem hd
    rw [hbl]
    rcases am_back_of hnd hcl hb hl' hi with ⟨a, x, h1, h2, rfl⟩ | ⟨h1, h2⟩
    · exact (am_out_renC G.2 hnd hcl hb hag2 hsm (hok' x (List.mem_of_getElem? h2))).2
    · exact (okH d (List.mem_of_getElem? h2)).mono (by omega)
  have hstk : ((r.map (am_ren (am_is2 is h.length gl))).toList ++ rest).map (am_v (am_out is h.length hc.length μ ν)) = (r.map (am_v ν)).toList ++ rest.map (am_v μ) := by
    rw [List.map_append]
    congr 1
    · cases r with
      | none => rfl
      | some w => simp only [Option.map_some, Option.toList_some, List.map_cons, List.map_nil, (hren w (hrok w rfl)).1]
    · exact List.map_congr_left fun w hw => hvo w (okS w (hsub w hw)) (List.all_eq_true.mp hrs w hw)
  obtain ⟨t2, a1, b1⟩ := K r h' hp hl' F hA (am_out is h.length hc.length μ ν) T'.heap (locs ++ L9) lsA ⟨hP2, hD2, hS1, hag3, hl2, hok2, fun w hw => (by rw [hbl]; exact (okL w hw).mono (by omega)), fun w hw => by
    rw [hbl]
    rcases List.mem_append.mp hw with h1 | h1
    · cases r with
      | none => cases h1
      | some w2 =>
        simp only [Option.map_some, Option.toList_some, List.mem_singleton] at h1
        rw [h1]
        exact (hren w2 (hrok w2 rfl)).2
    · exact (okS w (hsub w h1)).mono (by omega), by rw [hbl]; exact hsm, by rw [hbl]; omega, (hRO.kept hA hS hS1).ag (fun i hi => am_out_far hi)⟩ T' rfl X'
  rw [hstk] at a1
  exact ⟨t2, st t2 a1, b1⟩
end AMD
