/-! arrays, division, answers -/
section AMY
variable {p : Program} {l : Launch} {e : Env} {R : Room} {s : State} {m : MethodId} {args : Array Value} {below : List Frame} {meth : Method} {c : Code} {Q : State → Prop} {A : Nat → Prop} {H0 : Heap} {G : am_G} {μ0 : Nat → Nat} {n0 : Nat} {M : am_M} {k n pc : Nat} {ls : am_L} {st : List Value} {h : am_H} {nx a b : Nat} {kv : Value}
theorem aw_iald {q len : Nat} {i : Int32} {f : Nat → Int32} (hr : am_row? M.2.2.2.2.2 pc = some (pc, .iaload, nx, a, b, kv)) (hq : h[q]? = some (.inl (0, len, .inl f))) (hin : vp_in i len) (K : AW p l e R s m args below meth c Q A H0 G μ0 n0 M k n nx ls (.int (f i.toNatClampNeg) :: st) h) : AW p l e R s m args below meth c Q A H0 G μ0 n0 M k n pc ls (.int i :: .ref q :: st) h := by
  intro F hA μ H locs lsA hat
  obtain ⟨hx, hb, hml, hown, hts, hK, hM, hlk, hret, hini⟩ := id F
  obtain ⟨hP, hD, hS, hag, hl, okH, okL, okS, hlen, hn0, hRO⟩ := id hat
  obtain ⟨hd, hnx, -⟩ := am_row_dec hM hr rfl
  refine va_iald hx hb hK hP q 0 (am_W_at hq) rfl hin hd ?_
  have := K F hA μ H locs lsA ⟨hP, hD, hS, hag, hl, okH, okL, fun w hw => by
    rcases List.mem_cons.mp hw with e1 | hw
    · subst e1; trivial
    · exact okS w (List.mem_cons_of_mem _ (List.mem_cons_of_mem _ hw)), hlen, hn0, hRO⟩
  rw [show nx = pc + 1 from hnx] at this
  exact this
theorem aw_lald {q len : Nat} {i : Int32} {f : Nat → Int64} (hr : am_row? M.2.2.2.2.2 pc = some (pc, .laload, nx, a, b, kv)) (hq : h[q]? = some (.inl (1, len, .inr (.inl f)))) (hin : vp_in i len) (K : AW p l e R s m args below meth c Q A H0 G μ0 n0 M k n nx ls (.long (f i.toNatClampNeg) :: st) h) : AW p l e R s m args below meth c Q A H0 G μ0 n0 M k n pc ls (.int i :: .ref q :: st) h := by
  intro F hA μ H locs lsA hat
  obtain ⟨hx, hb, hml, hown, hts, hK, hM, hlk, hret, hini⟩ := id F
  obtain ⟨hP, hD, hS, hag, hl, okH, okL, okS, hlen, hn0, hRO⟩ := id hat
  obtain ⟨hd, hnx, -⟩ := am_row_dec hM hr rfl
  refine va_lald hx hb hK hP q 1 (am_W_at hq) rfl hin hd ?_
  have := K F hA μ H locs lsA ⟨hP, hD, hS, hag, hl, okH, okL, fun w hw => by
    rcases List.mem_cons.mp hw with e1 | hw
    · subst e1; trivial
    · exact okS w (List.mem_cons_of_mem _ (List.mem_cons_of_mem _ hw)), hlen, hn0, hRO⟩
  rw [show nx = pc + 1 from hnx] at this
  exact this
theorem aw_cald {q len : Nat} {i : Int32} {f : Nat → Int32} (hr : am_row? M.2.2.2.2.2 pc = some (pc, .caload, nx, a, b, kv)) (hq : h[q]? = some (.inl (2, len, .inl f))) (hin : vp_in i len) (K : AW p l e R s m args below meth c Q A H0 G μ0 n0 M k n nx ls (.int (f i.toNatClampNeg) :: st) h) : AW p l e R s m args below meth c Q A H0 G μ0 n0 M k n pc ls (.int i :: .ref q :: st) h := by
  intro F hA μ H locs lsA hat
  obtain ⟨hx, hb, hml, hown, hts, hK, hM, hlk, hret, hini⟩ := id F
  obtain ⟨hP, hD, hS, hag, hl, okH, okL, okS, hlen, hn0, hRO⟩ := id hat
  obtain ⟨hd, hnx, -⟩ := am_row_dec hM hr rfl
  refine va_cald hx hb hK hP q 2 (am_W_at hq) rfl hin hd ?_
  have := K F hA μ H locs lsA ⟨hP, hD, hS, hag, hl, okH, okL, fun w hw => by
    rcases List.mem_cons.mp hw with e1 | hw
    · subst e1; trivial
    · exact okS w (List.mem_cons_of_mem _ (List.mem_cons_of_mem _ hw)), hlen, hn0, hRO⟩
  rw [show nx = pc + 1 from hnx] at this
  exact this
theorem aw_zald {q len : Nat} {i : Int32} {f : Nat → Int32} (hr : am_row? M.2.2.2.2.2 pc = some (pc, .baload, nx, a, b, kv)) (hq : h[q]? = some (.inl (3, len, .inl f))) (hin : vp_in i len) (K : AW p l e R s m args below meth c Q A H0 G μ0 n0 M k n nx ls (.int (f i.toNatClampNeg) :: st) h) : AW p l e R s m args below meth c Q A H0 G μ0 n0 M k n pc ls (.int i :: .ref q :: st) h := by
  intro F hA μ H locs lsA hat
  obtain ⟨hx, hb, hml, hown, hts, hK, hM, hlk, hret, hini⟩ := id F
  obtain ⟨hP, hD, hS, hag, hl, okH, okL, okS, hlen, hn0, hRO⟩ := id hat
  obtain ⟨hd, hnx, -⟩ := am_row_dec hM hr rfl
  refine va_zald hx hb hK hP q 3 (am_W_at hq) rfl hin hd ?_
  have := K F hA μ H locs lsA ⟨hP, hD, hS, hag, hl, okH, okL, fun w hw => by
    rcases List.mem_cons.mp hw with e1 | hw
    · subst e1; trivial
    · exact okS w (List.mem_cons_of_mem _ (List.mem_cons_of_mem _ hw)), hlen, hn0, hRO⟩
  rw [show nx = pc + 1 from hnx] at this
  exact this
theorem aw_iast {q len : Nat} {i : Int32} {x : Int32} {f : Nat → Int32} (hr : am_row? M.2.2.2.2.2 pc = some (pc, .iastore, nx, a, b, kv)) (hq : h[q]? = some (.inl (0, len, .inl f))) (hin : vp_in i len) (K : AW p l e R s m args below meth c Q A H0 G μ0 n0 M k n nx ls st (h.set q (.inl (0, len, .inl (upd f i.toNatClampNeg x))))) : AW p l e R s m args below meth c Q A H0 G μ0 n0 M k n pc ls (.int x :: .int i :: .ref q :: st) h := by
  intro F hA μ H locs lsA hat
  obtain ⟨hx, hb, hml, hown, hts, hK, hM, hlk, hret, hini⟩ := id F
  obtain ⟨hP, hD, hS, hag, hl, okH, okL, okS, hlen, hn0, hRO⟩ := id hat
  obtain ⟨hd, hnx, -⟩ := am_row_dec hM hr rfl
  refine va_iast hx hb hK hP hD hS q 0 (am_W_at hq) rfl hin hd (fun H1 locs1 hP1 hD1 hS1 => ?_)
  have ee := am_W_set0 G.2 μ (.inl (0, len, .inl (upd f i.toNatClampNeg x))) h q
  simp only [am_e] at ee
  rw [ee] at hP1 hD1
  have := K F hA μ H1 locs1 lsA ⟨hP1, hD1, hS1, hag, hl, by rw [List.length_set]; exact am_okH_set okH trivial, by rw [List.length_set]; exact okL, by rw [List.length_set]; exact am_okS_tl (am_okS_tl (am_okS_tl okS)), by rw [List.length_set]; exact hlen, by rw [List.length_set]; exact hn0, hRO.kept hA hS hS1⟩
  rw [show nx = pc + 1 from hnx] at this
  exact this
theorem aw_last {q len : Nat} {i : Int32} {x : Int64} {f : Nat → Int64} (hr : am_row? M.2.2.2.2.2 pc = some (pc, .lastore, nx, a, b, kv)) (hq : h[q]? = some (.inl (1, len, .inr (.inl f)))) (hin : vp_in i len) (K : AW p l e R s m args below meth c Q A H0 G μ0 n0 M k n nx ls st (h.set q (.inl (1, len, .inr (.inl (vp_updL f i.toNatClampNeg x)))))) : AW p l e R s m args below meth c Q A H0 G μ0 n0 M k n pc ls (.long x :: .int i :: .ref q :: st) h := by
  intro F hA μ H locs lsA hat
  obtain ⟨hx, hb, hml, hown, hts, hK, hM, hlk, hret, hini⟩ := id F
  obtain ⟨hP, hD, hS, hag, hl, okH, okL, okS, hlen, hn0, hRO⟩ := id hat
  obtain ⟨hd, hnx, -⟩ := am_row_dec hM hr rfl
  refine va_last hx hb hK hP hD hS q 1 (am_W_at hq) rfl hin hd (fun H1 locs1 hP1 hD1 hS1 => ?_)
  have ee := am_W_set0 G.2 μ (.inl (1, len, .inr (.inl (vp_updL f i.toNatClampNeg x)))) h q
  simp only [am_e] at ee
  rw [ee] at hP1 hD1
  have := K F hA μ H1 locs1 lsA ⟨hP1, hD1, hS1, hag, hl, by rw [List.length_set]; exact am_okH_set okH trivial, by rw [List.length_set]; exact okL, by rw [List.length_set]; exact am_okS_tl (am_okS_tl (am_okS_tl okS)), by rw [List.length_set]; exact hlen, by rw [List.length_set]; exact hn0, hRO.kept hA hS hS1⟩
  rw [show nx = pc + 1 from hnx] at this
  exact this
theorem aw_cast {q len : Nat} {i : Int32} {x : Int32} {f : Nat → Int32} (hr : am_row? M.2.2.2.2.2 pc = some (pc, .castore, nx, a, b, kv)) (hq : h[q]? = some (.inl (2, len, .inl f))) (hin : vp_in i len) (K : AW p l e R s m args below meth c Q A H0 G μ0 n0 M k n nx ls st (h.set q (.inl (2, len, .inl (upd f i.toNatClampNeg (vp_nar .char x)))))) : AW p l e R s m args below meth c Q A H0 G μ0 n0 M k n pc ls (.int x :: .int i :: .ref q :: st) h := by
  intro F hA μ H locs lsA hat
  obtain ⟨hx, hb, hml, hown, hts, hK, hM, hlk, hret, hini⟩ := id F
  obtain ⟨hP, hD, hS, hag, hl, okH, okL, okS, hlen, hn0, hRO⟩ := id hat
  obtain ⟨hd, hnx, -⟩ := am_row_dec hM hr rfl
  refine va_cast hx hb hK hP hD hS q 2 (am_W_at hq) rfl hin hd (fun H1 locs1 hP1 hD1 hS1 => ?_)
  have ee := am_W_set0 G.2 μ (.inl (2, len, .inl (upd f i.toNatClampNeg (vp_nar .char x)))) h q
  simp only [am_e] at ee
  rw [ee] at hP1 hD1
  have := K F hA μ H1 locs1 lsA ⟨hP1, hD1, hS1, hag, hl, by rw [List.length_set]; exact am_okH_set okH trivial, by rw [List.length_set]; exact okL, by rw [List.length_set]; exact am_okS_tl (am_okS_tl (am_okS_tl okS)), by rw [List.length_set]; exact hlen, by rw [List.length_set]; exact hn0, hRO.kept hA hS hS1⟩
  rw [show nx = pc + 1 from hnx] at this
  exact this
theorem aw_zast {q len : Nat} {i : Int32} {x : Int32} {f : Nat → Int32} (hr : am_row? M.2.2.2.2.2 pc = some (pc, .bastore, nx, a, b, kv)) (hq : h[q]? = some (.inl (3, len, .inl f))) (hin : vp_in i len) (K : AW p l e R s m args below meth c Q A H0 G μ0 n0 M k n nx ls st (h.set q (.inl (3, len, .inl (upd f i.toNatClampNeg (vp_nar .boolean x)))))) : AW p l e R s m args below meth c Q A H0 G μ0 n0 M k n pc ls (.int x :: .int i :: .ref q :: st) h := by
  intro F hA μ H locs lsA hat
  obtain ⟨hx, hb, hml, hown, hts, hK, hM, hlk, hret, hini⟩ := id F
  obtain ⟨hP, hD, hS, hag, hl, okH, okL, okS, hlen, hn0, hRO⟩ := id hat
  obtain ⟨hd, hnx, -⟩ := am_row_dec hM hr rfl
  refine va_zast hx hb hK hP hD hS q 3 (am_W_at hq) rfl hin hd (fun H1 locs1 hP1 hD1 hS1 => ?_)
  have ee := am_W_set0 G.2 μ (.inl (3, len, .inl (upd f i.toNatClampNeg (vp_nar .boolean x)))) h q
  simp only [am_e] at ee
  rw [ee] at hP1 hD1
  have := K F hA μ H1 locs1 lsA ⟨hP1, hD1, hS1, hag, hl, by rw [List.length_set]; exact am_okH_set okH trivial, by rw [List.length_set]; exact okL, by rw [List.length_set]; exact am_okS_tl (am_okS_tl (am_okS_tl okS)), by rw [List.length_set]; exact hlen, by rw [List.length_set]; exact hn0, hRO.kept hA hS hS1⟩
  rw [show nx = pc + 1 from hnx] at this
  exact this
theorem aw_idiv {x y : Int32} (hr : am_row? M.2.2.2.2.2 pc = some (pc, .idiv, nx, a, b, kv)) (hne : ¬ y = 0) (K : AW p l e R s m args below meth c Q A H0 G μ0 n0 M k n nx ls (.int (x / y) :: st) h) : AW p l e R s m args below meth c Q A H0 G μ0 n0 M k n pc ls (.int y :: .int x :: st) h := by
  intro F hA μ H locs lsA hat
  obtain ⟨hx, hb, hml, hown, hts, hK, hM, hlk, hret, hini⟩ := id F
  obtain ⟨hP, hD, hS, hag, hl, okH, okL, okS, hlen, hn0, hRO⟩ := id hat
  obtain ⟨hd, hnx, -⟩ := am_row_dec hM hr rfl
  refine lv_idiv hx hb hd hne ?_
  have := K F hA μ H locs lsA ⟨hP, hD, hS, hag, hl, okH, okL, fun w hw => by
    rcases List.mem_cons.mp hw with e1 | hw
    · subst e1; trivial
    · exact okS w (List.mem_cons_of_mem _ (List.mem_cons_of_mem _ hw)), hlen, hn0, hRO⟩
  rw [show nx = pc + 1 from hnx] at this
  exact this
theorem aw_irem {x y : Int32} (hr : am_row? M.2.2.2.2.2 pc = some (pc, .irem, nx, a, b, kv)) (hne : ¬ y = 0) (K : AW p l e R s m args below meth c Q A H0 G μ0 n0 M k n nx ls (.int (x - x / y * y) :: st) h) : AW p l e R s m args below meth c Q A H0 G μ0 n0 M k n pc ls (.int y :: .int x :: st) h := by
  intro F hA μ H locs lsA hat
  obtain ⟨hx, hb, hml, hown, hts, hK, hM, hlk, hret, hini⟩ := id F
  obtain ⟨hP, hD, hS, hag, hl, okH, okL, okS, hlen, hn0, hRO⟩ := id hat
  obtain ⟨hd, hnx, -⟩ := am_row_dec hM hr rfl
  refine lv_irem hx hb hd hne ?_
  have := K F hA μ H locs lsA ⟨hP, hD, hS, hag, hl, okH, okL, fun w hw => by
    rcases List.mem_cons.mp hw with e1 | hw
    · subst e1; trivial
    · exact okS w (List.mem_cons_of_mem _ (List.mem_cons_of_mem _ hw)), hlen, hn0, hRO⟩
  rw [show nx = pc + 1 from hnx] at this
  exact this
theorem aw_ldiv {x y : Int64} (hr : am_row? M.2.2.2.2.2 pc = some (pc, .ldiv, nx, a, b, kv)) (hne : ¬ y = 0) (K : AW p l e R s m args below meth c Q A H0 G μ0 n0 M k n nx ls (.long (x / y) :: st) h) : AW p l e R s m args below meth c Q A H0 G μ0 n0 M k n pc ls (.long y :: .long x :: st) h := by
  intro F hA μ H locs lsA hat
  obtain ⟨hx, hb, hml, hown, hts, hK, hM, hlk, hret, hini⟩ := id F
  obtain ⟨hP, hD, hS, hag, hl, okH, okL, okS, hlen, hn0, hRO⟩ := id hat
  obtain ⟨hd, hnx, -⟩ := am_row_dec hM hr rfl
  refine lv_ldiv hx hb hd hne ?_
  have := K F hA μ H locs lsA ⟨hP, hD, hS, hag, hl, okH, okL, fun w hw => by
    rcases List.mem_cons.mp hw with e1 | hw
    · subst e1; trivial
    · exact okS w (List.mem_cons_of_mem _ (List.mem_cons_of_mem _ hw)), hlen, hn0, hRO⟩
  rw [show nx = pc + 1 from hnx] at this
  exact this
theorem aw_lrem {x y : Int64} (hr : am_row? M.2.2.2.2.2 pc = some (pc, .lrem, nx, a, b, kv)) (hne : ¬ y = 0) (K : AW p l e R s m args below meth c Q A H0 G μ0 n0 M k n nx ls (.long (x - x / y * y) :: st) h) : AW p l e R s m args below meth c Q A H0 G μ0 n0 M k n pc ls (.long y :: .long x :: st) h := by
  intro F hA μ H locs lsA hat
  obtain ⟨hx, hb, hml, hown, hts, hK, hM, hlk, hret, hini⟩ := id F
  obtain ⟨hP, hD, hS, hag, hl, okH, okL, okS, hlen, hn0, hRO⟩ := id hat
  obtain ⟨hd, hnx, -⟩ := am_row_dec hM hr rfl
  refine lv_lrem hx hb hd hne ?_
  have := K F hA μ H locs lsA ⟨hP, hD, hS, hag, hl, okH, okL, fun w hw => by
    rcases List.mem_cons.mp hw with e1 | hw
    · subst e1; trivial
    · exact okS w (List.mem_cons_of_mem _ (List.mem_cons_of_mem _ hw)), hlen, hn0, hRO⟩
  rw [show nx = pc + 1 from hnx] at this
  exact this
theorem aw_widen {k2 n2 : Nat} (h1 : k ≤ k2) (h2 : n ≤ n2) (K : AW p l e R s m args below meth c Q A H0 G μ0 n0 M k2 n2 pc ls st h) : AW p l e R s m args below meth c Q A H0 G μ0 n0 M k n pc ls st h := fun F hA μ H locs lsA hat => W.widen h1 h2 (K F hA μ H locs lsA hat)
end AMY
/-! contracts -/
def am_Pre (G : am_G) (μ : Nat → Nat) (h : am_H) (sz : Nat) (U : State) : Prop := U.heap.size = sz ∧ va_P G.1 vwCl (am_W G.2 μ 0 h) U.heap ∧ va_K G.1 vwCl (am_tys G.2) U ∧ va_D (fun _ => True) (am_W G.2 μ 0 h) ∧ am_okH h.length h ∧ h.length < 1000000 ∧ am_RO μ (va_A (am_W G.2 μ 0 h) sz) U U.heap
def am_Post (G : am_G) (μ : Nat → Nat) (h : am_H) (n0 gl sz : Nat) (Post : Option Value → am_H → Prop) : Array Value → State → Outcome → State → Prop := fun _ st oc t =>
  (∃ (r : Option Value) (h' : am_H) (ν : Nat → Nat), oc = .returned (r.map (am_v ν)) ∧ Post r h' ∧ am_ag n0 μ ν ∧ h'.length = h.length + gl ∧ h'.length < 1000000 ∧ am_okH h'.length h' ∧ (∀ v, r = some v → am_okV h'.length v) ∧ va_P G.1 vwCl (am_W G.2 ν 0 h') t.heap ∧ va_K G.1 vwCl (am_tys G.2) t ∧ va_D (va_A (am_W G.2 μ 0 h) sz) (am_W G.2 ν 0 h')) ∧ va_F (va_A (am_W G.2 μ 0 h) sz) st t
def am_ws (y : MethodName) (M : am_M) : List Jvm.Cond := Jvm.Cond.code y M.1 M.2.2.1 M.2.2.2.1 :: am_tb
/-- the contract of y: at most fr frames and lo words of locals below it; from the cells h and arguments av it comes to an answer and cells as Post says; what lies below n0 stays where it is; mc cells of ms slots are new, gl of them stand at the end of the list -/
def Con (l : Launch) (y : MethodName) (M : am_M) (fr lo : Nat) (av : List Value) (h : am_H) (n0 gl mc ms : Nat) (Post : Option Value → am_H → Prop) : Prop := ∀ (G : am_G) (μ : Nat → Nat) (sz : Nat), Met l y (am_ws y M) { frames := fr, cells := mc, slots := ms, locals := lo } (va_Pc (av.map (am_v μ)) (am_Pre G μ h sz)) (am_Post G μ h n0 gl sz Post) mc ms (va_A (am_W G.2 μ 0 h) sz)
abbrev am_Q (below : List Frame) (args : Array Value) (s : State) (G : am_G) (μ : Nat → Nat) (h : am_H) (n0 gl : Nat) (Post : Option Value → am_H → Prop) (mc ms : Nat) : State → Prop := MQ below (am_Post G μ h n0 gl s.heap.size Post) args s mc ms (va_A (am_W G.2 μ 0 h) s.heap.size)
section AMR
variable {p : Program} {l : Launch} {e : Env} {R : Room} {s : State} {m : MethodId} {args : Array Value} {below : List Frame} {meth : Method} {c : Code} {G : am_G} {μ0 : Nat → Nat} {n0 : Nat} {M : am_M} {k n pc : Nat} {ls : am_L} {h h0 : am_H} {nx a b : Nat} {kv : Value} {Post : Option Value → am_H → Prop} {mc ms gl : Nat}
theorem aw_iret {ty : FieldType} {x : Int32} (hty : M.2.2.2.1 = some ty) (hnr : narrow ty (.int x) = .int x) (hr : am_row? M.2.2.2.2.2 pc = some (pc, .ireturn, nx, a, b, kv)) (hp : Post (some (.int x)) h) (hg : h.length = h0.length + gl) (hk : k ≤ mc) (hn : n ≤ ms) : AW p l e R s m args below meth c (am_Q below args s G μ0 h0 n0 gl Post mc ms) (va_A (am_W G.2 μ0 0 h0) s.heap.size) s.heap G μ0 n0 M k n pc ls [.int x] h := by
  intro F hA μ H locs lsA hat
  obtain ⟨hx, hb, hml, hown, hts, hK, hM, hlk, hret, hini⟩ := id F
  obtain ⟨hP, hD, hS, hag, hl, okH, okL, okS, hlen, hn0, hRO⟩ := id hat
  obtain ⟨hd, hnx, -⟩ := am_row_dec hM hr rfl
  refine W.widen hk hn ?_
  exact W.zret (ty := ty) hx hb (by rw [hret]; exact hty) hnr (fun t ht hW => ⟨⟨some (.int x), h, μ, rfl, hp, hag, hg, hlen, okH, fun v hv => by cases hv; trivial, by rw [ht]; exact hP, va_K.moved hW.alike hK, hD⟩, hS.F ht⟩) hS.2.2 hd
theorem aw_lret {x : Int64} (hty : M.2.2.2.1 = some .long) (hr : am_row? M.2.2.2.2.2 pc = some (pc, .lreturn, nx, a, b, kv)) (hp : Post (some (.long x)) h) (hg : h.length = h0.length + gl) (hk : k ≤ mc) (hn : n ≤ ms) : AW p l e R s m args below meth c (am_Q below args s G μ0 h0 n0 gl Post mc ms) (va_A (am_W G.2 μ0 0 h0) s.heap.size) s.heap G μ0 n0 M k n pc ls [.long x] h := by
  intro F hA μ H locs lsA hat
  obtain ⟨hx, hb, hml, hown, hts, hK, hM, hlk, hret, hini⟩ := id F
  obtain ⟨hP, hD, hS, hag, hl, okH, okL, okS, hlen, hn0, hRO⟩ := id hat
  obtain ⟨hd, hnx, -⟩ := am_row_dec hM hr rfl
  refine W.widen hk hn ?_
  exact W.lret hx hb (by rw [hret]; exact hty) (fun t ht hW => ⟨⟨some (.long x), h, μ, rfl, hp, hag, hg, hlen, okH, fun v hv => by cases hv; trivial, by rw [ht]; exact hP, va_K.moved hW.alike hK, hD⟩, hS.F ht⟩) hS.2.2 hd
theorem aw_vret (hty : M.2.2.2.1 = none) (hr : am_row? M.2.2.2.2.2 pc = some (pc, .return_, nx, a, b, kv)) (hp : Post (none) h) (hg : h.length = h0.length + gl) (hk : k ≤ mc) (hn : n ≤ ms) : AW p l e R s m args below meth c (am_Q below args s G μ0 h0 n0 gl Post mc ms) (va_A (am_W G.2 μ0 0 h0) s.heap.size) s.heap G μ0 n0 M k n pc ls [] h := by
  intro F hA μ H locs lsA hat
  obtain ⟨hx, hb, hml, hown, hts, hK, hM, hlk, hret, hini⟩ := id F
  obtain ⟨hP, hD, hS, hag, hl, okH, okL, okS, hlen, hn0, hRO⟩ := id hat
  obtain ⟨hd, hnx, -⟩ := am_row_dec hM hr rfl
  refine W.widen hk hn ?_
  exact W.vret hx hb (by rw [hret]; exact hty) (fun t ht hW => ⟨⟨none, h, μ, rfl, hp, hag, hg, hlen, okH, (fun v hv => nomatch hv), by rw [ht]; exact hP, va_K.moved hW.alike hK, hD⟩, hS.F ht⟩) hS.2.2 hd
end AMR
