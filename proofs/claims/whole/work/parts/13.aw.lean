/-! the judgement: the method M at pc, with locals, stack and cells, comes to Q; k cells of n slots are new so far; what lies below n0 in the list stands where it stood at the start -/
def am_tys (cA : Nat → ClassId) : List (ClassId × FieldType) := [(cA 0, .int), (cA 1, .long), (cA 2, .char), (cA 3, .boolean)]
def am_Fix (p : Program) (s : State) (m : MethodId) (args : Array Value) (meth : Method) (c : Code) (G : am_G) (M : am_M) : Prop :=
  p.tables.exec = Jvm.exec ∧ c.code = M.1 ∧ c.maxLocals = M.2.2.1 ∧ s.vm.findClass M.2.1 = some m.cls ∧ (∀ w ∈ am_tb, w.before args s = true) ∧ va_K G.1 vwCl (am_tys G.2) s ∧ am_okM M = true ∧ meth.locks = false ∧ meth.sig.returnType = M.2.2.2.1 ∧ (M.2.2.2.2.1 = true → meth.name = "<init>")
def am_At (s : State) (A : Nat → Prop) (H0 : Heap) (G : am_G) (μ0 : Nat → Nat) (n0 : Nat) (M : am_M) (μ : Nat → Nat) (H : Heap) (locs : List Loc) (lsA : Array Slot) (ls : am_L) (st : List Value) (h : am_H) : Prop :=
  va_P G.1 vwCl (am_W G.2 μ 0 h) H ∧ va_D A (am_W G.2 μ 0 h) ∧ va_S A H0 H locs ∧ am_ag n0 μ0 μ ∧ am_ls μ lsA M.2.2.1 ls ∧ am_okH h.length h ∧ am_okL h.length ls ∧ am_okS h.length st ∧ h.length < 1000000 ∧ n0 ≤ h.length ∧ am_RO μ A s H
def AW (p : Program) (l : Launch) (e : Env) (R : Room) (s : State) (m : MethodId) (args : Array Value) (below : List Frame) (meth : Method) (c : Code) (Q : State → Prop) (A : Nat → Prop) (H0 : Heap) (G : am_G) (μ0 : Nat → Nat) (n0 : Nat) (M : am_M) (k n : Nat) (pc : Nat) (ls : am_L) (st : List Value) (h : am_H) : Prop :=
  am_Fix p s m args meth c G M → (∀ q, H0.size ≤ q → A q) → ∀ (μ : Nat → Nat) (H : Heap) (locs : List Loc) (lsA : Array Slot), am_At s A H0 G μ0 n0 M μ H locs lsA ls st h → W p l e R s m args below meth c H locs k n Q (F0 m pc lsA (st.map (am_v μ)))
theorem am_cl_ok : vwCl.all am_okCl = true := by decide +kernel
theorem am_cl {ci : Nat} {C : String} {T : u_T} {N : Nat} (h : vwCl[ci]? = some (C, T, N)) : (∀ w ∈ u_ws C T N, w ∈ am_tb) ∧ (∀ k, k < N → parseFieldDescriptor (T k).2.2.1 = some ((parseFieldDescriptor (T k).2.2.1).getD .int)) ∧ ∀ a, a < N → ∀ b, b < N → a ≠ b → (T a).2.1 ≠ (T b).2.1 := by
  have h1 := List.all_eq_true.mp am_cl_ok _ (List.mem_of_getElem? h)
  simp only [am_okCl, Bool.and_eq_true] at h1
  obtain ⟨⟨h2, h3⟩, h4⟩ := h1
  refine ⟨fun w hw => of_decide_eq_true (List.all_eq_true.mp h2 w hw), fun k hk => ?_, fun a ha b hb hab => ?_⟩
  · have := List.all_eq_true.mp h3 k (List.mem_range.mpr hk)
    cases hp : parseFieldDescriptor (T k).2.2.1 with
    | none => rw [hp] at this; cases this
    | some ty => rfl
  · have := List.all_eq_true.mp (List.all_eq_true.mp h4 a (List.mem_range.mpr ha)) b (List.mem_range.mpr hb)
    rw [Bool.or_eq_true] at this
    rcases this with h | h
    · exact absurd (Nat.eq_of_beq_eq_true h) hab
    · exact of_decide_eq_true h
section AMW
variable {p : Program} {l : Launch} {e : Env} {R : Room} {s : State} {m : MethodId} {args : Array Value} {below : List Frame} {meth : Method} {c : Code} {Q : State → Prop} {A : Nat → Prop} {H0 : Heap} {G : am_G} {μ0 : Nat → Nat} {n0 : Nat} {M : am_M} {k n pc : Nat} {ls : am_L} {st : List Value} {h : am_H}
/-- the heap changed at one place -/
theorem am_okH_set {n q : Nat} {h : am_H} {d : am_C} (ho : am_okH n h) (hd : am_okC n d) : am_okH n (h.set q d) := by
  intro x hx
  rcases List.mem_or_eq_of_mem_set hx with h1 | h1
  · exact ho x h1
  · rw [h1]; exact hd
theorem am_tys_at (cA : Nat → ClassId) {t : Nat} (h : t < 4) : ∃ ty, (am_tys cA)[t]? = some (cA t, ty) := by
  rcases (show t = 0 ∨ t = 1 ∨ t = 2 ∨ t = 3 by omega) with rfl | rfl | rfl | rfl
  · exact ⟨_, rfl⟩
  · exact ⟨_, rfl⟩
  · exact ⟨_, rfl⟩
  · exact ⟨_, rfl⟩
set_option maxHeartbeats 4000000 in
theorem aw_con {r : am_row} (hr : am_row? M.2.2.2.2.2 pc = some r) (hw : am_sw r.2.1 = false) (hs : am_con r.2.1 = true) (K : AW p l e R s m args below meth c Q A H0 G μ0 n0 M k n r.2.2.1 ls (r.2.2.2.2.2 :: st) h) : AW p l e R s m args below meth c Q A H0 G μ0 n0 M k n pc ls st h := by
  intro F hA μ H locs lsA hat
  obtain ⟨hx, hb, hml, hown, hts, hK, hM, hlk, hret, hini⟩ := id F
  obtain ⟨hP, hD, hS, hag, hl, okH, okL, okS, hlen, hn0, hRO⟩ := id hat
  obtain ⟨hd, hnx, hk⟩ := am_row_dec hM hr hw
  obtain ⟨r1, i, nx, a, b, kv⟩ := r
  dsimp only at hd hnx hk hs K
  have go : am_okV h.length kv → W p l e R s m args below meth c H locs k n Q (F0 m nx lsA (am_v μ kv :: st.map (am_v μ))) := fun hv => K F hA μ H locs lsA ⟨hP, hD, hS, hag, hl, okH, okL, fun w hw => by
      rcases List.mem_cons.mp hw with e1 | hw
      · subst e1; exact hv
      · exact okS w hw, hlen, hn0, hRO⟩
  rw [hnx] at go
  unfold am_con at hs
  split at hs
  · have hk := of_decide_eq_true hk
    subst hk
    exact lv_iconst hx hb hd rfl (go trivial)
  · have hk := of_decide_eq_true hk
    subst hk
    exact lv_bipush hx hb hd rfl (go trivial)
  · have hk := of_decide_eq_true hk
    subst hk
    exact lv_sipush hx hb hd rfl (go trivial)
  · have hk := of_decide_eq_true hk
    subst hk
    exact lv_lconst hx hb hd rfl (go trivial)
  · simp only [am_okK] at hk
    split at hk
    · exact lv_ldc hx hb hown (hts _ (of_decide_eq_true hk)) hd (go trivial)
    · obtain ⟨tx, h8, h9⟩ := hRO.str hk
      exact va_ldcS hx hb hown h9 hd (go (Or.inr h8))
    · cases hk
  · simp only [am_okK] at hk
    split at hk
    · exact lv_ldc2 hx hb hown (hts _ (of_decide_eq_true hk)) hd (go trivial)
    · cases hk
  · cases hs
set_option maxHeartbeats 4000000 in
theorem aw_fld {r : am_row} {t : List Value × am_H} (hr : am_row? M.2.2.2.2.2 pc = some r) (hw : am_sw r.2.1 = false) (hs : am_fld r st h = some t) (K : AW p l e R s m args below meth c Q A H0 G μ0 n0 M k n r.2.2.1 ls t.1 t.2) : AW p l e R s m args below meth c Q A H0 G μ0 n0 M k n pc ls st h := by
  intro F hA μ H locs lsA hat
  obtain ⟨hx, hb, hml, hown, hts, hK, hM, hlk, hret, hini⟩ := id F
  obtain ⟨hP, hD, hS, hag, hl, okH, okL, okS, hlen, hn0, hRO⟩ := id hat
  obtain ⟨hd, hnx, hk⟩ := am_row_dec hM hr hw
  unfold am_fld at hs
  split at hs
  · rename_i pc1 idx nx ci kf kv q t1
    split at hs
    · rename_i cj fs hq
      cases hbq : Nat.beq ci cj with
      | false => rw [hbq] at hs; cases hs
      | true =>
        rw [hbq] at hs
        have hci := Nat.eq_of_beq_eq_true hbq
        subst hci
        dsimp only [cond] at hs
        split at hs
        · rename_i v hv
          cases hs
          have hk : am_okF M.2.1 idx ci kf = true := by
            have hk : (Nat.beq ci 9999 || am_okF M.2.1 idx ci kf) = true := hk
            rw [Bool.or_eq_true] at hk
            rcases hk with hk | hk
            · have h9 := Nat.eq_of_beq_eq_true hk
              obtain ⟨r9, h10, -⟩ := hP q _ (am_W_at hq)
              dsimp only at h10
              rw [h9] at h10
              exact absurd h10 (by rw [show vwCl[9999]? = none by decide +kernel]; intro z; cases z)
            · exact hk
          simp only [am_okF] at hk
          split at hk
          · rename_i C T N hc
            rw [Bool.and_eq_true] at hk
            have hkN : kf < N := Nat.le_of_ble_eq_true hk.1
            have hfl := of_decide_eq_true hk.2
            have hv' : (fs.map (am_v μ))[kf]? = some (am_v μ v) := by rw [List.getElem?_map, hv]; rfl
            have hokv : am_okV h.length v := okH _ (List.mem_of_getElem? hq) v (List.mem_of_getElem? hv)
            refine va_get (D := G.1) (C := C) (T := T) (N := N) hx hb hts (am_cl hc).1 hown hK hP q (am_W_at hq) hc kf hkN (hts _ hfl) (fun _ h9 => h9) hv' hd ?_
            have := K F hA μ H locs lsA ⟨hP, hD, hS, hag, hl, okH, okL, fun w hw => by
              rcases List.mem_cons.mp hw with e1 | hw
              · subst e1; exact hokv
              · exact okS w (List.mem_cons_of_mem _ hw), hlen, hn0, hRO⟩
            rw [hnx] at this
            exact this
          · cases hk
        · cases hs
    · cases hs
  · rename_i pc1 idx nx ci kf kv v q t1
    split at hs
    · rename_i cj fs hq
      cases hbq : (Nat.beq ci cj && am_fit kv v && Nat.blt kf fs.length) with
      | false => rw [hbq] at hs; cases hs
      | true =>
        rw [hbq] at hs
        simp only [Bool.and_eq_true] at hbq
        obtain ⟨⟨hb1, hb2⟩, hb3⟩ := hbq
        have hci := Nat.eq_of_beq_eq_true hb1
        subst hci
        cases hs
        simp only [am_okK, am_okF, am_okP] at hk
        cases hc : vwCl[ci]? with
        | none => rw [hc] at hk; cases hk
        | some Y =>
          obtain ⟨C, T, N⟩ := Y
          rw [hc] at hk
          simp only [Bool.and_eq_true] at hk
          obtain ⟨⟨g1, g2⟩, g3, g4⟩ := hk
          have hkN : kf < N := Nat.le_of_ble_eq_true g1
          have hfl := of_decide_eq_true g2
          cases hty : parseFieldDescriptor (T kf).2.2.1 with
          | none => rw [hty] at g3; cases g3
          | some ty =>
            rw [hty] at g3
            have hft := am_tk_fit g3 (am_fit_v μ hb2)
            have hcl := am_cl hc
            have hokv : am_okV h.length v := okS v List.mem_cons_self
            have fin : ∀ (H1 : Heap) (locs1 : List Loc), va_P G.1 vwCl ((am_W G.2 μ 0 h).set q (μ q, .inr (ci, (fs.map (am_v μ)).set kf (am_v μ v)))) H1 → va_D A ((am_W G.2 μ 0 h).set q (μ q, .inr (ci, (fs.map (am_v μ)).set kf (am_v μ v)))) → va_S A H0 H1 locs1 → W p l e R s m args below meth c H1 locs1 k n Q (F0 m (pc + 3) lsA (t1.map (am_v μ))) := by
              intro H1 locs1 hP1 hD1 hS1
              have ee : (am_W G.2 μ 0 h).set q (μ q, .inr (ci, (fs.map (am_v μ)).set kf (am_v μ v))) = am_W G.2 μ 0 (h.set q (.inr (ci, fs.set kf v))) := by
                rw [← am_W_set0]
                simp only [am_e, List.map_set]
              rw [ee] at hP1 hD1
              have := K F hA μ H1 locs1 lsA ⟨hP1, hD1, hS1, hag, hl, by
                rw [List.length_set]
                refine am_okH_set okH ?_
                intro w hw
                rcases List.mem_or_eq_of_mem_set hw with h2 | h2
                · exact okH _ (List.mem_of_getElem? hq) w h2
                · rw [h2]; exact hokv, by rw [List.length_set]; exact okL, by
                rw [List.length_set]
                exact fun w hw => okS w (List.mem_cons_of_mem _ (List.mem_cons_of_mem _ hw)), by rw [List.length_set]; exact hlen, by rw [List.length_set]; exact hn0, hRO.kept hA hS hS1⟩
              rw [hnx] at this
              exact this
            cases hfin : (T kf).2.2.2 with
            | false => exact va_put (D := G.1) (C := C) (T := T) (N := N) hx hb hts hcl.1 _ hcl.2.1 hcl.2.2 hown hK hP hD hS q (am_W_at hq) hc kf hkN (hts _ hfl) (fun _ h9 => h9) hfin hty hft.1 hft.2 (by rw [List.length_map]; exact Nat.le_of_ble_eq_true hb3) hd fin
            | true =>
              rw [hfin] at g4
              simp only [Bool.not_true, Bool.false_or, Bool.and_eq_true] at g4
              have hnm : meth.name = "<init>" := hini g4.1
              have hdl : (T kf).1 = M.2.1 := of_decide_eq_true g4.2
              exact va_putF (D := G.1) (C := C) (T := T) (N := N) hx hb hts hcl.1 _ hcl.2.1 hcl.2.2 hown hK hP hD hS q (am_W_at hq) hc kf hkN (hts _ hfl) (fun _ h9 => h9) hfin hnm hdl hty hft.1 hft.2 (by rw [List.length_map]; exact Nat.le_of_ble_eq_true hb3) hd fin
    · cases hs
  · rename_i pc1 nx a1 b1 kv q t1
    split at hs
    · rename_i t0 nn f hq
      cases hb0 : Nat.blt t0 4 with
      | false => rw [hb0] at hs; cases hs
      | true =>
      rw [hb0] at hs
      cases hs
      obtain ⟨ty0, hty0⟩ := am_tys_at G.2 (Nat.le_of_ble_eq_true hb0)
      have hal := am_W_at (cA := G.2) (μ := μ) hq
      have key : W p l e R s m args below meth c H locs k n Q (F0 m (pc + 1) lsA (.int (nI nn) :: t1.map (am_v μ))) := by
        have := K F hA μ H locs lsA ⟨hP, hD, hS, hag, hl, okH, okL, fun w hw => by
          rcases List.mem_cons.mp hw with e1 | hw
          · subst e1; trivial
          · exact okS w (List.mem_cons_of_mem _ hw), hlen, hn0, hRO⟩
        rw [hnx] at this
        exact this
      exact va_alen hx hb hK hP q t0 hal hty0 rfl hd key
    · cases hs
  · cases hs
/-- one step of the function -/
theorem aw_step {r : am_row} {pc' : Nat} {ls' : am_L} {st' : List Value} {h' : am_H} (hr : am_row? M.2.2.2.2.2 pc = some r) (hs : am_step r ls st h = some (pc', ls', st', h')) (K : AW p l e R s m args below meth c Q A H0 G μ0 n0 M k n pc' ls' st' h') : AW p l e R s m args below meth c Q A H0 G μ0 n0 M k n pc ls st h := by
  unfold am_step at hs
  cases hw : am_sw r.2.1 with
  | true => rw [hw] at hs; cases hs
  | false =>
  rw [hw] at hs
  dsimp only at hs
  cases h1 : am_stk r.2.1 st with
  | some st1 =>
    rw [h1] at hs
    cases hs
    intro F hA μ H locs lsA hat
    obtain ⟨hx, hb, hml, hown, hts, hK, hM, hlk, hret, hini⟩ := id F
    obtain ⟨hP, hD, hS, hag, hl, okH, okL, okS, hlen, hn0, hRO⟩ := id hat
    obtain ⟨hd, hnx, hk⟩ := am_row_dec hM hr hw
    refine am_stk_W h1 hx hb hd ?_
    rw [← hnx]
    exact K F hA μ H locs lsA ⟨hP, hD, hS, hag, hl, okH, okL, am_stk_okS h1 okS, hlen, hn0, hRO⟩
  | none =>
  rw [h1] at hs
  dsimp only at hs
  cases h2 : am_dup r.2.1 st with
  | some st1 =>
    rw [h2] at hs
    cases hs
    intro F hA μ H locs lsA hat
    obtain ⟨hx, hb, hml, hown, hts, hK, hM, hlk, hret, hini⟩ := id F
    obtain ⟨hP, hD, hS, hag, hl, okH, okL, okS, hlen, hn0, hRO⟩ := id hat
    obtain ⟨hd, hnx, hk⟩ := am_row_dec hM hr hw
    refine am_dup_W h2 hx hb hd ?_
    rw [← hnx]
    exact K F hA μ H locs lsA ⟨hP, hD, hS, hag, hl, okH, okL, fun v hv => okS v (am_dup_mem h2 v hv), hlen, hn0, hRO⟩
  | none =>
  rw [h2] at hs
  dsimp only at hs
  cases h3 : am_con r.2.1 with
  | true =>
    rw [h3] at hs
    cases hs
    exact aw_con hr hw h3 K
  | false =>
  rw [h3] at hs
  dsimp only at hs
  cases h4 : am_lod r.2.1 ls with
  | some v =>
    rw [h4] at hs
    cases hs
    intro F hA μ H locs lsA hat
    obtain ⟨hx, hb, hml, hown, hts, hK, hM, hlk, hret, hini⟩ := id F
    obtain ⟨hP, hD, hS, hag, hl, okH, okL, okS, hlen, hn0, hRO⟩ := id hat
    obtain ⟨hd, hnx, hk⟩ := am_row_dec hM hr hw
    refine am_lod_W h4 hl hx hb hd ?_
    rw [← hnx]
    exact K F hA μ H locs lsA ⟨hP, hD, hS, hag, hl, okH, okL, fun w hw => by
      rcases List.mem_cons.mp hw with e1 | hw
      · subst e1; exact okL _ (am_lod_mem h4)
      · exact okS w hw, hlen, hn0, hRO⟩
  | none =>
  rw [h4] at hs
  dsimp only at hs
  cases h5 : am_sto r.2.1 r.2.2.2.2.2 ls st with
  | some q =>
    rw [h5] at hs
    cases hs
    intro F hA μ H locs lsA hat
    obtain ⟨hx, hb, hml, hown, hts, hK, hM, hlk, hret, hini⟩ := id F
    obtain ⟨hP, hD, hS, hag, hl, okH, okL, okS, hlen, hn0, hRO⟩ := id hat
    obtain ⟨hd, hnx, hk⟩ := am_row_dec hM hr hw
    refine am_sto_W h5 (fun j nn ej => ?_) hl hx hb hd (fun ls1 hl1 => ?_)
    · obtain ⟨r1, r2, r3, r4, r5, r6⟩ := r
      dsimp only at ej hk ⊢
      subst ej
      exact of_decide_eq_true hk
    · rw [← hnx]
      obtain ⟨g1, g2⟩ := am_sto_okL h5 okL okS
      exact K F hA μ H locs ls1 ⟨hP, hD, hS, hag, hl1, okH, g1, g2, hlen, hn0, hRO⟩
  | none =>
  rw [h5] at hs
  dsimp only at hs
  cases h6 : am_fld r st h with
  | some q =>
    rw [h6] at hs
    cases hs
    exact aw_fld hr hw h6 K
  | none =>
  rw [h6] at hs
  dsimp only at hs
  obtain ⟨r1, r2, r3, r4, r5, r6⟩ := r
  dsimp only at hs
  split at hs
  · cases hs
    intro F hA μ H locs lsA hat
    obtain ⟨hx, hb, hml, hown, hts, hK, hM, hlk, hret, hini⟩ := id F
    obtain ⟨hd, hnx, hk⟩ := am_row_dec hM hr hw
    have h9 := (am_row_at hM hr).1
    dsimp only at h9
    subst h9
    exact lv_goto hx hb hd (of_decide_eq_true hk) (K F hA μ H locs lsA hat)
  · cases hs
end AMW
section AMX
variable {p : Program} {l : Launch} {e : Env} {R : Room} {s : State} {m : MethodId} {args : Array Value} {below : List Frame} {meth : Method} {c : Code} {Q : State → Prop} {A : Nat → Prop} {H0 : Heap} {G : am_G} {μ0 : Nat → Nat} {n0 : Nat} {M : am_M} {k n pc : Nat} {ls : am_L} {st : List Value} {h : am_H}
/-- a straight stretch -/
theorem aw_run (f : Nat) {z : Nat × am_L × List Value × am_H} (hs : am_run M.2.2.2.2.2 f (pc, ls, st, h) = some z) (K : AW p l e R s m args below meth c Q A H0 G μ0 n0 M k n z.1 z.2.1 z.2.2.1 z.2.2.2) : AW p l e R s m args below meth c Q A H0 G μ0 n0 M k n pc ls st h := by
  have key : ∀ (f : Nat) (y : Nat × am_L × List Value × am_H), am_run M.2.2.2.2.2 f y = some z → AW p l e R s m args below meth c Q A H0 G μ0 n0 M k n y.1 y.2.1 y.2.2.1 y.2.2.2 := by
    intro f
    induction f with
    | zero =>
      intro y hy
      cases hy
      exact K
    | succ f ih =>
      intro y hy
      unfold am_run at hy
      split at hy
      · cases hy
      · rename_i r hr
        split at hy
        · cases hy
        · rename_i w hw
          obtain ⟨w1, w2, w3, w4⟩ := w
          exact aw_step hr hw (ih _ hy)
  exact key f _ hs
/-- the same, to a state that is written out -/
theorem aw_go (f pc' : Nat) (ls' : am_L) (st' : List Value) (h' : am_H) (hs : am_run M.2.2.2.2.2 f (pc, ls, st, h) = some (pc', ls', st', h')) (K : AW p l e R s m args below meth c Q A H0 G μ0 n0 M k n pc' ls' st' h') : AW p l e R s m args below meth c Q A H0 G μ0 n0 M k n pc ls st h := aw_run f hs K
theorem am_okS_tl {n : Nat} {v : Value} {st : List Value} (h : am_okS n (v :: st)) : am_okS n st := fun w hw => h w (List.mem_cons_of_mem _ hw)
theorem aw_br0 {x : Int32} {cnd : ClassFile.Cond} {off : Int} {nx tgt b : Nat} {kv : Value} (hr : am_row? M.2.2.2.2.2 pc = some (pc, .ifCond cnd off, nx, tgt, b, kv)) {P : Prop}
    (row : ∀ (H : Heap) (locs : List Loc) (lsA : Array Slot) (rest : List Value), p.tables.exec = Jvm.exec → c.code = M.1 → decode M.1 pc = .ok (.ifCond cnd off, 3) → (pc : Int) + off = (tgt : Int) → (P → W p l e R s m args below meth c H locs k n Q (F0 m tgt lsA rest)) → (¬ P → W p l e R s m args below meth c H locs k n Q (F0 m (pc + 3) lsA rest)) → W p l e R s m args below meth c H locs k n Q (F0 m pc lsA (.int x :: rest)))
    (kt : P → AW p l e R s m args below meth c Q A H0 G μ0 n0 M k n tgt ls st h) (kf : ¬ P → AW p l e R s m args below meth c Q A H0 G μ0 n0 M k n nx ls st h) : AW p l e R s m args below meth c Q A H0 G μ0 n0 M k n pc ls (.int x :: st) h := by
  intro F hA μ H locs lsA hat
  obtain ⟨hx, hb, hml, hown, hts, hK, hM, hlk, hret, hini⟩ := id F
  obtain ⟨hP, hD, hS, hag, hl, okH, okL, okS, hlen, hn0, hRO⟩ := id hat
  obtain ⟨hd, hnx, hk⟩ := am_row_dec hM hr rfl
  have hat2 : am_At s A H0 G μ0 n0 M μ H locs lsA ls st h := ⟨hP, hD, hS, hag, hl, okH, okL, am_okS_tl okS, hlen, hn0, hRO⟩
  refine row H locs lsA (st.map (am_v μ)) hx hb hd (of_decide_eq_true hk) (fun q => kt q F hA μ H locs lsA hat2) (fun q => ?_)
  have := kf q F hA μ H locs lsA hat2
  dsimp only at hnx
  rw [hnx] at this
  exact this
theorem aw_br1 {x y : Int32} {cnd : ClassFile.Cond} {off : Int} {nx tgt b : Nat} {kv : Value} (hr : am_row? M.2.2.2.2.2 pc = some (pc, .if_icmp cnd off, nx, tgt, b, kv)) {P : Prop}
    (row : ∀ (H : Heap) (locs : List Loc) (lsA : Array Slot) (rest : List Value), p.tables.exec = Jvm.exec → c.code = M.1 → decode M.1 pc = .ok (.if_icmp cnd off, 3) → (pc : Int) + off = (tgt : Int) → (P → W p l e R s m args below meth c H locs k n Q (F0 m tgt lsA rest)) → (¬ P → W p l e R s m args below meth c H locs k n Q (F0 m (pc + 3) lsA rest)) → W p l e R s m args below meth c H locs k n Q (F0 m pc lsA (.int y :: .int x :: rest)))
    (kt : P → AW p l e R s m args below meth c Q A H0 G μ0 n0 M k n tgt ls st h) (kf : ¬ P → AW p l e R s m args below meth c Q A H0 G μ0 n0 M k n nx ls st h) : AW p l e R s m args below meth c Q A H0 G μ0 n0 M k n pc ls (.int y :: .int x :: st) h := by
  intro F hA μ H locs lsA hat
  obtain ⟨hx, hb, hml, hown, hts, hK, hM, hlk, hret, hini⟩ := id F
  obtain ⟨hP, hD, hS, hag, hl, okH, okL, okS, hlen, hn0, hRO⟩ := id hat
  obtain ⟨hd, hnx, hk⟩ := am_row_dec hM hr rfl
  have hat2 : am_At s A H0 G μ0 n0 M μ H locs lsA ls st h := ⟨hP, hD, hS, hag, hl, okH, okL, am_okS_tl (am_okS_tl okS), hlen, hn0, hRO⟩
  refine row H locs lsA (st.map (am_v μ)) hx hb hd (of_decide_eq_true hk) (fun q => kt q F hA μ H locs lsA hat2) (fun q => ?_)
  have := kf q F hA μ H locs lsA hat2
  dsimp only at hnx
  rw [hnx] at this
  exact this
theorem aw_if_eq {x : Int32} {off : Int} {nx tgt b : Nat} {kv : Value} (hr : am_row? M.2.2.2.2.2 pc = some (pc, .ifCond .eq off, nx, tgt, b, kv)) (kt : x = 0 → AW p l e R s m args below meth c Q A H0 G μ0 n0 M k n tgt ls st h) (kf : ¬ (x = 0) → AW p l e R s m args below meth c Q A H0 G μ0 n0 M k n nx ls st h) : AW p l e R s m args below meth c Q A H0 G μ0 n0 M k n pc ls (.int x :: st) h := aw_br0 hr (fun _ _ _ _ a1 a2 a3 a4 a5 a6 => lv_if_eq a1 a2 a3 a4 a5 a6) kt kf
theorem aw_if_ne {x : Int32} {off : Int} {nx tgt b : Nat} {kv : Value} (hr : am_row? M.2.2.2.2.2 pc = some (pc, .ifCond .ne off, nx, tgt, b, kv)) (kt : ¬ x = 0 → AW p l e R s m args below meth c Q A H0 G μ0 n0 M k n tgt ls st h) (kf : x = 0 → AW p l e R s m args below meth c Q A H0 G μ0 n0 M k n nx ls st h) : AW p l e R s m args below meth c Q A H0 G μ0 n0 M k n pc ls (.int x :: st) h := aw_br0 hr (fun _ _ _ _ a1 a2 a3 a4 a5 a6 => lv_if_ne a1 a2 a3 a4 a5 (fun q => a6 (fun z => z q))) kt (fun q => kf (Classical.not_not.mp q))
theorem aw_if_lt {x : Int32} {off : Int} {nx tgt b : Nat} {kv : Value} (hr : am_row? M.2.2.2.2.2 pc = some (pc, .ifCond .lt off, nx, tgt, b, kv)) (kt : x < 0 → AW p l e R s m args below meth c Q A H0 G μ0 n0 M k n tgt ls st h) (kf : ¬ (x < 0) → AW p l e R s m args below meth c Q A H0 G μ0 n0 M k n nx ls st h) : AW p l e R s m args below meth c Q A H0 G μ0 n0 M k n pc ls (.int x :: st) h := aw_br0 hr (fun _ _ _ _ a1 a2 a3 a4 a5 a6 => lv_if_lt a1 a2 a3 a4 a5 a6) kt kf
theorem aw_if_ge {x : Int32} {off : Int} {nx tgt b : Nat} {kv : Value} (hr : am_row? M.2.2.2.2.2 pc = some (pc, .ifCond .ge off, nx, tgt, b, kv)) (kt : 0 ≤ x → AW p l e R s m args below meth c Q A H0 G μ0 n0 M k n tgt ls st h) (kf : ¬ (0 ≤ x) → AW p l e R s m args below meth c Q A H0 G μ0 n0 M k n nx ls st h) : AW p l e R s m args below meth c Q A H0 G μ0 n0 M k n pc ls (.int x :: st) h := aw_br0 hr (fun _ _ _ _ a1 a2 a3 a4 a5 a6 => lv_if_ge a1 a2 a3 a4 a5 a6) kt kf
theorem aw_if_gt {x : Int32} {off : Int} {nx tgt b : Nat} {kv : Value} (hr : am_row? M.2.2.2.2.2 pc = some (pc, .ifCond .gt off, nx, tgt, b, kv)) (kt : 0 < x → AW p l e R s m args below meth c Q A H0 G μ0 n0 M k n tgt ls st h) (kf : ¬ (0 < x) → AW p l e R s m args below meth c Q A H0 G μ0 n0 M k n nx ls st h) : AW p l e R s m args below meth c Q A H0 G μ0 n0 M k n pc ls (.int x :: st) h := aw_br0 hr (fun _ _ _ _ a1 a2 a3 a4 a5 a6 => lv_if_gt a1 a2 a3 a4 a5 a6) kt kf
theorem aw_if_le {x : Int32} {off : Int} {nx tgt b : Nat} {kv : Value} (hr : am_row? M.2.2.2.2.2 pc = some (pc, .ifCond .le off, nx, tgt, b, kv)) (kt : x ≤ 0 → AW p l e R s m args below meth c Q A H0 G μ0 n0 M k n tgt ls st h) (kf : ¬ (x ≤ 0) → AW p l e R s m args below meth c Q A H0 G μ0 n0 M k n nx ls st h) : AW p l e R s m args below meth c Q A H0 G μ0 n0 M k n pc ls (.int x :: st) h := aw_br0 hr (fun _ _ _ _ a1 a2 a3 a4 a5 a6 => lv_if_le a1 a2 a3 a4 a5 a6) kt kf
theorem aw_cmp_eq {x y : Int32} {off : Int} {nx tgt b : Nat} {kv : Value} (hr : am_row? M.2.2.2.2.2 pc = some (pc, .if_icmp .eq off, nx, tgt, b, kv)) (kt : x = y → AW p l e R s m args below meth c Q A H0 G μ0 n0 M k n tgt ls st h) (kf : ¬ (x = y) → AW p l e R s m args below meth c Q A H0 G μ0 n0 M k n nx ls st h) : AW p l e R s m args below meth c Q A H0 G μ0 n0 M k n pc ls (.int y :: .int x :: st) h := aw_br1 hr (fun _ _ _ _ a1 a2 a3 a4 a5 a6 => lv_icmp_eq a1 a2 a3 a4 a5 a6) kt kf
theorem aw_cmp_ne {x y : Int32} {off : Int} {nx tgt b : Nat} {kv : Value} (hr : am_row? M.2.2.2.2.2 pc = some (pc, .if_icmp .ne off, nx, tgt, b, kv)) (kt : ¬ x = y → AW p l e R s m args below meth c Q A H0 G μ0 n0 M k n tgt ls st h) (kf : x = y → AW p l e R s m args below meth c Q A H0 G μ0 n0 M k n nx ls st h) : AW p l e R s m args below meth c Q A H0 G μ0 n0 M k n pc ls (.int y :: .int x :: st) h := aw_br1 hr (fun _ _ _ _ a1 a2 a3 a4 a5 a6 => lv_icmp_ne a1 a2 a3 a4 a5 (fun q => a6 (fun z => z q))) kt (fun q => kf (Classical.not_not.mp q))
theorem aw_cmp_lt {x y : Int32} {off : Int} {nx tgt b : Nat} {kv : Value} (hr : am_row? M.2.2.2.2.2 pc = some (pc, .if_icmp .lt off, nx, tgt, b, kv)) (kt : x < y → AW p l e R s m args below meth c Q A H0 G μ0 n0 M k n tgt ls st h) (kf : ¬ (x < y) → AW p l e R s m args below meth c Q A H0 G μ0 n0 M k n nx ls st h) : AW p l e R s m args below meth c Q A H0 G μ0 n0 M k n pc ls (.int y :: .int x :: st) h := aw_br1 hr (fun _ _ _ _ a1 a2 a3 a4 a5 a6 => lv_icmp_lt a1 a2 a3 a4 a5 a6) kt kf
theorem aw_cmp_ge {x y : Int32} {off : Int} {nx tgt b : Nat} {kv : Value} (hr : am_row? M.2.2.2.2.2 pc = some (pc, .if_icmp .ge off, nx, tgt, b, kv)) (kt : y ≤ x → AW p l e R s m args below meth c Q A H0 G μ0 n0 M k n tgt ls st h) (kf : ¬ (y ≤ x) → AW p l e R s m args below meth c Q A H0 G μ0 n0 M k n nx ls st h) : AW p l e R s m args below meth c Q A H0 G μ0 n0 M k n pc ls (.int y :: .int x :: st) h := aw_br1 hr (fun _ _ _ _ a1 a2 a3 a4 a5 a6 => lv_icmp_ge a1 a2 a3 a4 a5 a6) kt kf
theorem aw_cmp_gt {x y : Int32} {off : Int} {nx tgt b : Nat} {kv : Value} (hr : am_row? M.2.2.2.2.2 pc = some (pc, .if_icmp .gt off, nx, tgt, b, kv)) (kt : y < x → AW p l e R s m args below meth c Q A H0 G μ0 n0 M k n tgt ls st h) (kf : ¬ (y < x) → AW p l e R s m args below meth c Q A H0 G μ0 n0 M k n nx ls st h) : AW p l e R s m args below meth c Q A H0 G μ0 n0 M k n pc ls (.int y :: .int x :: st) h := aw_br1 hr (fun _ _ _ _ a1 a2 a3 a4 a5 a6 => lv_icmp_gt a1 a2 a3 a4 a5 a6) kt kf
theorem aw_cmp_le {x y : Int32} {off : Int} {nx tgt b : Nat} {kv : Value} (hr : am_row? M.2.2.2.2.2 pc = some (pc, .if_icmp .le off, nx, tgt, b, kv)) (kt : x ≤ y → AW p l e R s m args below meth c Q A H0 G μ0 n0 M k n tgt ls st h) (kf : ¬ (x ≤ y) → AW p l e R s m args below meth c Q A H0 G μ0 n0 M k n nx ls st h) : AW p l e R s m args below meth c Q A H0 G μ0 n0 M k n pc ls (.int y :: .int x :: st) h := aw_br1 hr (fun _ _ _ _ a1 a2 a3 a4 a5 a6 => lv_icmp_le a1 a2 a3 a4 a5 a6) kt kf
end AMX
