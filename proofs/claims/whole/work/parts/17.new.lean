/-! new cells -/
theorem am_up_ag {n q : Nat} (μ : Nat → Nat) (hn : n < 1000000) : am_ag n μ (va_up μ n q) := by
  intro k hk
  exact va_up_ne μ q (by omega)
theorem am_W_push (cA : Nat → ClassId) {h : am_H} {μ : Nat → Nat} {q : Nat} {d : am_C} (hn : h.length < 1000000) (ho : am_okH h.length h) (hd : am_okC h.length d) : am_W cA (va_up μ h.length q) 0 (h ++ [d]) = am_W cA μ 0 h ++ [(q, am_e cA μ d)] := by
  rw [am_W_app, am_W_ag cA (am_up_ag μ hn) (Nat.le_refl _) ho]
  simp only [am_W, Nat.zero_add, va_up_self, am_e_ag cA (am_up_ag μ hn) hd]
def am_ty (t : Nat) : FieldType := match t with
  | 0 => .int
  | 1 => .long
  | 2 => .char
  | _ => .boolean
def am_zero (t : Nat) : (Nat → Int32) ⊕ (Nat → Int64) ⊕ (Nat → UInt32) ⊕ (Nat → UInt64) ⊕ (Nat → Option Nat) := match t with
  | 1 => .inr (.inl (fun _ => 0))
  | _ => .inl (fun _ => 0)
def am_dfl (ci : Nat) (fs : List Value) : Bool := match vwCl[ci]? with
  | some (_, T, N) => Nat.beq fs.length N && (List.range N).all (fun j => decide (defaultValue ((parseFieldDescriptor (T j).2.2.1).getD .int) = fs.getD j .null)) && fs.all (fun v => match v with
    | .ref _ => false
    | _ => true)
  | none => false
section AMN
variable {p : Program} {l : Launch} {e : Env} {R : Room} {s : State} {m : MethodId} {args : Array Value} {below : List Frame} {meth : Method} {c : Code} {Q : State → Prop} {A : Nat → Prop} {H0 : Heap} {G : am_G} {μ0 : Nat → Nat} {n0 : Nat} {M : am_M} {k n pc : Nat} {ls : am_L} {st : List Value} {h : am_H} {nx a b : Nat} {kv : Value}
theorem am_K_ty {D : va_G} {cA : Nat → ClassId} {s : State} (hK : va_K D vwCl (am_tys cA) s) {t : Nat} (ht : t < 4) : va_RA s (cA t) (am_ty t) := by
  rcases (show t = 0 ∨ t = 1 ∨ t = 2 ∨ t = 3 by omega) with rfl | rfl | rfl | rfl
  · exact (hK.2 0 _ rfl).2
  · exact (hK.2 1 _ rfl).2
  · exact (hK.2 2 _ rfl).2
  · exact (hK.2 3 _ rfl).2
theorem am_push_at {H1 : Heap} {locs : List Loc} {lsA : Array Slot} {μ : Nat → Nat} {H : Heap} {st2 : List Value} {d : am_C} {q : Nat} (hat : am_At s A H0 G μ0 n0 M μ H locs lsA ls st h) (hA : ∀ q, H0.size ≤ q → A q) (hd : am_okC h.length d) (hsm : h.length + 1 < 1000000) (hsub : ∀ v ∈ st2, v ∈ st) (hP1 : va_P G.1 vwCl (am_W G.2 μ 0 h ++ [(q, am_e G.2 μ d)]) H1) (hD1 : va_D A (am_W G.2 μ 0 h ++ [(q, am_e G.2 μ d)])) (hS1 : va_S A H0 H1 locs) : am_At s A H0 G μ0 n0 M (va_up μ h.length q) H1 locs lsA ls (.ref h.length :: st2) (h ++ [d]) ∧ (Value.ref h.length :: st2).map (am_v (va_up μ h.length q)) = .ref q :: st2.map (am_v μ) := by
  obtain ⟨hP, hD, hS, hag, hl, okH, okL, okS, hlen, hn0, hRO⟩ := id hat
  have hu := am_up_ag (q := q) μ hlen
  have okS2 : am_okS h.length st2 := fun v hv => okS v (hsub v hv)
  have hlen2 : (h ++ [d]).length = h.length + 1 := by simp
  refine ⟨⟨?_, ?_, hS1, hag.trans hu hn0, am_ls_ag hu okL hl, ?_, fun v hv => ?_, fun v hv => ?_, by rw [hlen2]; exact hsm, by rw [hlen2]; omega, (hRO.kept hA hS hS1).ag (fun i hi => hu i (Or.inr hi))⟩, ?_⟩
  · rw [am_W_push G.2 hlen okH hd]; exact hP1
  · rw [am_W_push G.2 hlen okH hd]; exact hD1
  · rw [hlen2]
    intro x hx
    rcases List.mem_append.mp hx with h1 | h1
    · exact (okH x h1).mono (by omega)
    · rw [List.mem_singleton.mp h1]; exact hd.mono (by omega)
  · rw [hlen2]; exact (okL v hv).mono (by omega)
  · rw [hlen2]
    rcases List.mem_cons.mp hv with h1 | h1
    · rw [h1]; exact Or.inl (by omega)
    · exact (okS2 v h1).mono (by omega)
  · simp only [List.map_cons, am_v, va_up_self]
    congr 1
    exact am_S_ag hu okS2
set_option maxHeartbeats 4000000 in
theorem aw_newa {at_ : ArrayType} {N : Nat} {x : Int32} (t : Nat) (hr : am_row? M.2.2.2.2.2 pc = some (pc, .newarray at_, nx, a, b, kv)) (ht : t < 4) (hty : newarray.typeOf at_ = am_ty t) (hn : ¬ x < 0) (hN : x.toNatClampNeg = N) (hby : N ≤ 60000000) (hc : k + 1 ≤ R.cells) (hs : n + N ≤ R.slots) (hsm : h.length + 1 < 1000000) (K : AW p l e R s m args below meth c Q A H0 G μ0 n0 M (k + 1) (n + N) nx ls (.ref h.length :: st) (h ++ [.inl (t, N, am_zero t)])) : AW p l e R s m args below meth c Q A H0 G μ0 n0 M k n pc ls (.int x :: st) h := by
  intro F hA μ H locs lsA hat
  obtain ⟨hx, hb, hml, hown, hts, hK, hM, hlk, hret, hini⟩ := id F
  obtain ⟨hP, hD, hS, hag, hl, okH, okL, okS, hlen, hn0, hRO⟩ := id hat
  obtain ⟨hd, hnx, hk⟩ := am_row_dec hM hr rfl
  have hby2 : N * componentBytes (am_ty t) ≤ 536870912 := by
    have : componentBytes (am_ty t) ≤ 8 := by rcases (show t = 0 ∨ t = 1 ∨ t = 2 ∨ t = 3 by omega) with rfl | rfl | rfl | rfl <;> decide
    calc N * componentBytes (am_ty t) ≤ N * 8 := Nat.mul_le_mul_left _ this
      _ ≤ 536870912 := by omega
  refine va_newa (ty := am_ty t) (a0 := (N, am_zero t)) hx hb (hts _ (of_decide_eq_true hk)) hty hK hP hD hS hA (fun cA => ?_) hn hN hby2 hc hs hd (fun q cA H1 hK1 hP1 hD1 hS1 => ?_)
  · rcases (show t = 0 ∨ t = 1 ∨ t = 2 ∨ t = 3 by omega) with rfl | rfl | rfl | rfl <;> rfl
  · have h1 : va_RA s cA (am_ty t) := (hK1.2 4 (cA, am_ty t) rfl).2
    have h2 := am_K_ty hK ht
    have hcA : cA = G.2 t := by
      rcases (show t = 0 ∨ t = 1 ∨ t = 2 ∨ t = 3 by omega) with rfl | rfl | rfl | rfl <;> exact Option.some.inj (Eq.trans (Eq.symm h1) h2)
    subst hcA
    obtain ⟨g1, g2⟩ := am_push_at (d := .inl (t, N, am_zero t)) (st2 := st) hat hA trivial hsm (fun v hv => List.mem_cons_of_mem _ hv) hP1 hD1 hS1
    have := K F hA _ _ _ _ g1
    rw [g2, show nx = pc + 2 from hnx] at this
    exact this
set_option maxHeartbeats 4000000 in
theorem aw_new {idx : Nat} (ci : Nat) (fs : List Value) (hr : am_row? M.2.2.2.2.2 pc = some (pc, .new idx, nx, ci, b, kv)) (hfs : am_dfl ci fs = true) (hc : k + 1 ≤ R.cells) (hs : n + fs.length ≤ R.slots) (hsm : h.length + 1 < 1000000) (K : AW p l e R s m args below meth c Q A H0 G μ0 n0 M (k + 1) (n + fs.length) nx ls (.ref h.length :: st) (h ++ [.inr (ci, fs)])) : AW p l e R s m args below meth c Q A H0 G μ0 n0 M k n pc ls st h := by
  intro F hA μ H locs lsA hat
  obtain ⟨hx, hb, hml, hown, hts, hK, hM, hlk, hret, hini⟩ := id F
  obtain ⟨hP, hD, hS, hag, hl, okH, okL, okS, hlen, hn0, hRO⟩ := id hat
  obtain ⟨hd, hnx, hk⟩ := am_row_dec hM hr rfl
  simp only [am_okK, am_okN] at hk
  unfold am_dfl at hfs
  cases hcl : vwCl[ci]? with
  | none => rw [hcl] at hk; cases hk
  | some Y =>
    obtain ⟨C, T, N⟩ := Y
    rw [hcl] at hk hfs
    simp only [Bool.and_eq_true] at hk hfs
    obtain ⟨⟨k1, k2⟩, k3⟩ := hk
    obtain ⟨⟨f1, f2⟩, f3⟩ := hfs
    have hNl := Nat.eq_of_beq_eq_true f1
    have hok : am_okC h.length (.inr (ci, fs)) := by
      intro v hv
      have := List.all_eq_true.mp f3 v hv
      cases v <;> first | trivial | cases this
    have hmap : fs.map (am_v μ) = fs := by
      conv => rhs; rw [← List.map_id fs]
      exact List.map_congr_left fun v hv => by
        have := List.all_eq_true.mp f3 v hv
        cases v <;> first | rfl | cases this
    refine va_new (C := C) (T := T) (N := N) (ci := ci) (fs := fs) hx hb hts (am_cl hcl).1 (fun j => (parseFieldDescriptor (T j).2.2.1).getD .int) (am_cl hcl).2.1 hown (hts _ (of_decide_eq_true k1)) (hts _ (of_decide_eq_true k2)) (hts _ (of_decide_eq_true k3)) hK hP hD hS hA hcl (fun j hj => ?_) hc (by omega) hd (fun q H1 hP1 hD1 hS1 => ?_)
    · have := of_decide_eq_true (List.all_eq_true.mp f2 j (List.mem_range.mpr hj))
      exact this
    · have he : am_e G.2 μ (.inr (ci, fs)) = .inr (ci, fs) := by simp only [am_e, hmap]
      obtain ⟨g1, g2⟩ := am_push_at (d := .inr (ci, fs)) (st2 := st) hat hA hok hsm (fun v hv => hv) (by rw [he]; exact hP1) (by rw [he]; exact hD1) hS1
      have := K F hA _ _ _ _ g1
      rw [g2, show nx = pc + 3 from hnx, hNl] at this
      exact this
/-- Object() -/
theorem aw_obj {idx q : Nat} (hr : am_row? M.2.2.2.2.2 pc = some (pc, .invokespecial idx, nx, a, b, kv)) (hw : ([.methodLink M.2.1 idx Lib.objectInit, .instanceMethod Lib.objectInit, .code Lib.objectInit ⟨#[0xb1]⟩ 1 none] : List Jvm.Cond).all (fun w => decide (w ∈ am_tb)) = true) (hf : 1 ≤ R.frames) (hlo : 20 ≤ R.locals) (h8 : (st.map fun v => v.category).sum ≤ 8) (K : AW p l e R s m args below meth c Q A H0 G μ0 n0 M k n nx ls st h) : AW p l e R s m args below meth c Q A H0 G μ0 n0 M k n pc ls (.ref q :: st) h := by
  intro F hA μ H locs lsA hat
  obtain ⟨hx, hb, hml, hown, hts, hK, hM, hlk, hret, hini⟩ := id F
  obtain ⟨hP, hD, hS, hag, hl, okH, okL, okS, hlen, hn0, hRO⟩ := id hat
  obtain ⟨hd, hnx, -⟩ := am_row_dec hM hr rfl
  have mem : ∀ w ∈ ([.methodLink M.2.1 idx Lib.objectInit, .instanceMethod Lib.objectInit, .code Lib.objectInit ⟨#[0xb1]⟩ 1 none] : List Jvm.Cond), w ∈ am_tb := fun w h1 => of_decide_eq_true (List.all_eq_true.mp hw w h1)
  refine W.objInit hx hb hown (hts _ (mem _ (by simp))) (hts _ (mem _ (by simp))) (hts _ (mem _ (by simp))) (g := F0 m pc lsA (.ref (μ q) :: st.map (am_v μ))) rfl (by rw [hml]; exact hl.1) rfl hd hf ?_ ?_
  · have h9 : ((st.map (am_v μ)).map fun v => v.category).sum ≤ 8 := by
      rw [List.map_map]
      have : (st.map ((fun v => v.category) ∘ am_v μ)) = st.map (fun v => v.category) := List.map_congr_left fun v _ => am_v_cat μ v
      rw [this]
      exact h8
    show 2 * 0 + _ + 12 ≤ _
    omega
  · have := K F hA μ H locs lsA ⟨hP, hD, hS, hag, hl, okH, okL, am_okS_tl okS, hlen, hn0, hRO⟩
    rw [show nx = pc + 3 from hnx] at this
    exact this
end AMN
