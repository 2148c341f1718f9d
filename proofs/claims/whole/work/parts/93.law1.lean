/-! the law: its rules, its entry. The script is the constant cell 5000000 -/
abbrev LAW (p : Program) (l : Launch) (e : Env) (s : State) (m : MethodId) (below : List Frame) (meth : Method) (c : Code) (b : Nat) (G : am_G) (μ0 : Nat → Nat) (k n pc : Nat) (ls : am_L) (st : List Value) (h : am_H) : Prop := AW p l e room_1 s m #[Value.ref b] below meth c (lw_Z below #[Value.ref b] s) (fun q => s.heap.size ≤ q) s.heap G μ0 0 M_La_law k n pc ls st h
def la_X (s : State) (μ0 : Nat → Nat) (L : Nat) (xs : Nat → Int32) : Prop := va_X (μ0 5000000) L xs s s.heap ∧ μ0 5000000 < s.heap.size ∧ L ≤ 3072
section LAWR
variable {p : Program} {l : Launch} {e : Env} {s : State} {m : MethodId} {below : List Frame} {meth : Method} {c : Code} {b : Nat} {G : am_G} {μ0 : Nat → Nat} {k n pc : Nat} {ls : am_L} {st : List Value} {h : am_H} {nx a bb : Nat} {kv : Value} {L : Nat} {xs : Nat → Int32}
theorem aw_xald (hX : la_X s μ0 L xs) {j : Nat} (hj : j < L) (hr : am_row? M_La_law.2.2.2.2.2 pc = some (pc, .iaload, nx, a, bb, kv)) (K : LAW p l e s m below meth c b G μ0 k n nx ls (.int (xs j) :: st) h) : LAW p l e s m below meth c b G μ0 k n pc ls (.int (nI j) :: .ref 5000000 :: st) h := by
  intro F hA μ H locs lsA hat
  obtain ⟨hx, hb, hml, hown, hts, hK, hM, hlk, hret, hini⟩ := id F
  obtain ⟨hP, hD, hS, hag, hl, okH, okL, okS, hlen, hn0, hRO⟩ := id hat
  obtain ⟨hd, hnx, -⟩ := am_row_dec hM hr rfl
  have hμ : μ 5000000 = μ0 5000000 := hag 5000000 (Or.inr (by omega))
  have hL := hX.2.2
  have := K F hA μ H locs lsA ⟨hP, hD, hS, hag, hl, okH, okL, fun w hw => by
    rcases List.mem_cons.mp hw with e1 | hw
    · subst e1; trivial
    · exact okS w (List.mem_cons_of_mem _ (List.mem_cons_of_mem _ hw)), hlen, hn0, hRO⟩
  rw [show nx = pc + 1 from hnx] at this
  show W p l e room_1 s m #[Value.ref b] below meth c H locs k n _ (F0 m pc lsA (.int (nI j) :: .ref (μ 5000000) :: st.map (am_v μ)))
  rw [hμ]
  refine va_sld (A := fun q => s.heap.size ≤ q) (H0 := s.heap) hx hb hX.1 hX.2.1 (Nat.not_le.mpr hX.2.1) hS (vp_in_nI hj (by omega)) hd ?_
  rw [nI_clamp (by omega)]
  exact this
theorem aw_xlen (hX : la_X s μ0 L xs) (hr : am_row? M_La_law.2.2.2.2.2 pc = some (pc, .arraylength, nx, a, bb, kv)) (K : LAW p l e s m below meth c b G μ0 k n nx ls (.int (nI L) :: st) h) : LAW p l e s m below meth c b G μ0 k n pc ls (.ref 5000000 :: st) h := by
  intro F hA μ H locs lsA hat
  obtain ⟨hx, hb, hml, hown, hts, hK, hM, hlk, hret, hini⟩ := id F
  obtain ⟨hP, hD, hS, hag, hl, okH, okL, okS, hlen, hn0, hRO⟩ := id hat
  obtain ⟨hd, hnx, -⟩ := am_row_dec hM hr rfl
  have hμ : μ 5000000 = μ0 5000000 := hag 5000000 (Or.inr (by omega))
  have := K F hA μ H locs lsA ⟨hP, hD, hS, hag, hl, okH, okL, fun w hw => by
    rcases List.mem_cons.mp hw with e1 | hw
    · subst e1; trivial
    · exact okS w (List.mem_cons_of_mem _ hw), hlen, hn0, hRO⟩
  rw [show nx = pc + 1 from hnx] at this
  show W p l e room_1 s m #[Value.ref b] below meth c H locs k n _ (F0 m pc lsA (.ref (μ 5000000) :: st.map (am_v μ)))
  rw [hμ]
  exact va_slen (A := fun q => s.heap.size ≤ q) (H0 := s.heap) hx hb hX.1 hX.2.1 (Nat.not_le.mpr hX.2.1) hS hd this
theorem aw_xret (hk : k ≤ 600000) (hn : n ≤ 7302250) (hr : am_row? M_La_law.2.2.2.2.2 pc = some (pc, .ireturn, nx, a, bb, kv)) : LAW p l e s m below meth c b G μ0 k n pc ls [.int 1] h := by
  intro F hA μ H locs lsA hat
  obtain ⟨hx, hb, hml, hown, hts, hK, hM, hlk, hret, hini⟩ := id F
  obtain ⟨hP, hD, hS, hag, hl, okH, okL, okS, hlen, hn0, hRO⟩ := id hat
  obtain ⟨hd, hnx, -⟩ := am_row_dec hM hr rfl
  exact va_forget hS.2.2 (W.widen hk hn (lw_ret hx hb hret hlk hd))
theorem aw_loop2 {σ : Type} (I : σ → Prop) (ms kf nf : σ → Nat) (Lf : σ → am_L) (Hh : σ → am_H) (step : ∀ x, I x → (∀ y, I y → ms y < ms x → LAW p l e s m below meth c b G μ0 (kf y) (nf y) pc (Lf y) [] (Hh y)) → LAW p l e s m below meth c b G μ0 (kf x) (nf x) pc (Lf x) [] (Hh x)) (x : σ) (hx : I x) : LAW p l e s m below meth c b G μ0 (kf x) (nf x) pc (Lf x) [] (Hh x) := by
  have key : ∀ (d : Nat) (x : σ), ms x < d → I x → LAW p l e s m below meth c b G μ0 (kf x) (nf x) pc (Lf x) [] (Hh x) := by
    intro d
    induction d with
    | zero => intro x h; exact absurd h (Nat.not_lt_zero _)
    | succ d ih => intro x hd hI; exact step x hI (fun y hy hlt => ih y (by omega) hy)
  exact key (ms x + 1) x (Nat.lt_succ_self _) hx
end LAWR
/-! the entry -/
def la_tm (i : Nat) : Term := match i with
  | 0 => .string "ObjectTexts$Signs" 9
  | 1 => .string "ObjectTexts$Teller" 73
  | 2 => .string "ObjectTexts$Store" 37
  | _ => .string "ObjectTexts$Store" 49
theorem la_flat1 : ∀ i, i < 4 → (Cond.exactly (la_tm i) "java/lang/String" ∈ flatC (Jvm.Cond.and given_1 narrow_1) ∧ Cond.eq (.field (la_tm i) "java/lang/String" "coder" "B") (.int 0) ∈ flatC (Jvm.Cond.and given_1 narrow_1)) ∧ Cond.arrayOf (.field (la_tm i) "java/lang/String" "value" "[B") .byte ∈ flatC (Jvm.Cond.and given_1 narrow_1) ∧ Cond.eq (.length (.field (la_tm i) "java/lang/String" "value" "[B")) (.int (Int32.ofNat (am_len4.getD i 0))) ∈ flatC (Jvm.Cond.and given_1 narrow_1) := by decide +kernel
theorem la_flat2 : ∀ i, i < 4 → ∀ j, j < am_len4.getD i 0 → Cond.eq (.elem (.field (la_tm i) "java/lang/String" "value" "[B") (.int (Int32.ofNat j))) (.int ((am_byt4.getD i []).getD j 0)) ∈ flatC (Jvm.Cond.and given_1 narrow_1) := by decide +kernel
theorem la_flat3 : ∀ i, i < 4 → ∀ j, j < 4 → i ≠ j → (Cond.not (Cond.eq (la_tm i) (la_tm j)) ∈ flatC (Jvm.Cond.and given_1 narrow_1) ∨ Cond.not (Cond.eq (la_tm j) (la_tm i)) ∈ flatC (Jvm.Cond.and given_1 narrow_1)) := by decide +kernel
def la_ins : List Nat := [8, 11, 2, 8, 3, 3, 5, 39]
theorem la_inst : ∀ q, q < 8 → Cond.instantiable ((vwCl.getD q ("", T_X, 0)).1) (la_ins.getD q 0) ∈ lw_tbl := by decide +kernel
theorem la_len : vwCl.length = 8 := by decide +kernel
def la_mu (b t0 : Nat) (adK adV : Nat → Nat) (k : Nat) : Nat := if k = 5000000 then b else if k = 4000000 then t0 else if 3000000 ≤ k then adV (k - 3000000) else adK (k - 2000000)
theorem la_muK {b t0 : Nat} {adK adV : Nat → Nat} {i : Nat} (hi : i < 4) : la_mu b t0 adK adV (2000000 + i) = adK i := by
  unfold la_mu
  rw [if_neg (by omega), if_neg (by omega), if_neg (by omega), show 2000000 + i - 2000000 = i by omega]
theorem la_muV {b t0 : Nat} {adK adV : Nat → Nat} {i : Nat} (hi : i < 4) : la_mu b t0 adK adV (3000000 + i) = adV i := by
  unfold la_mu
  rw [if_neg (by omega), if_neg (by omega), if_pos (by omega), show 3000000 + i - 3000000 = i by omega]
theorem la_eqR {args : Array Value} {s : State} {t u : Term} {a b : Nat} (h : (Cond.eq t u).before args s = true) (ht : t.eval args s none [] s = some (.ref a)) (hu : u.eval args s none [] s = some (.ref b)) : b = a := by
  simp [Cond.before, Cond.holds, Cond.value, ht, hu] at h
  exact h.symm
theorem la_arr {args : Array Value} {s : State} {ty : FieldType} (h : (Cond.arrayClass ty).before args s = true) : ∃ cA, ArrOfT s cA ty ∧ s.vm.findClass ("[" ++ ty.toString) = some cA := by
  obtain ⟨cA, kA, comp, h1, h2, h3⟩ := Cond.arrayClass_spec h
  exact ⟨cA, fun n z => ⟨fun k h => (by cases h), kA, h2, comp, h3⟩, h1⟩
set_option maxHeartbeats 4000000 in
theorem la_enter {p : Program} {e : Env} {s : State} {m : MethodId} {below : List Frame} {meth : Method} {c : Code} (l : Launch) {b L : Nat} {xs : Nat → Int32} (hL : L ≤ 3072) (C0 : lw_At p s m meth c b L xs) : ∃ (G : am_G) (μ0 : Nat → Nat), la_X s μ0 L xs ∧ (LAW p l e s m below meth c b G μ0 0 0 0 [some (.ref 5000000), none, none, none] [] [] → W p l e room_1 s m #[Value.ref b] below meth c s.heap [] 0 0 (lw_Z below #[Value.ref b] s) (entryFrame m ([Value.ref b] : List Value).toArray 4)) := by
  obtain ⟨hx, hb, hret, hml, hown, hts, hX, hbl, hlk, hgv⟩ := C0
  have hs := flat_of_before _ hgv
  have hA : ∀ a : Nat, a < s.heap.size → ¬ s.heap.size ≤ a := fun a h => by omega
  obtain ⟨adK, adV, hS4, hev⟩ := vk_Sof (args := #[Value.ref b]) (s := s) (N := 4) (tm := la_tm) (len := am_len4) (byt := am_byt4) (A := fun q => s.heap.size ≤ q) (by decide) (fun i hi => hs _ (la_flat1 i hi).1.1) (fun i hi => hs _ (la_flat1 i hi).1.2) (fun i hi => hs _ (la_flat1 i hi).2.1) (fun i hi => hs _ (la_flat1 i hi).2.2) (fun i hi j hj => hs _ (la_flat2 i hi j hj)) (fun i j hi hj hne => (la_flat3 i hi j hj hne).imp (fun z => hs _ z) (fun z => hs _ z)) hA
  have hZ1 : va_Z "java/lang/String" "COMPACT_STRINGS" "Z" (.int 1) (fun q => s.heap.size ≤ q) s s.heap := va_Zof (hts (.laysStatic "java/lang/String" "COMPACT_STRINGS" "Z") (by decide +kernel)) (hts (.initialized "java/lang/String") (by decide +kernel)) (va_eqi (hs (.eq (.static "java/lang/String" "COMPACT_STRINGS" "Z") (.int 1)) (by decide +kernel))) hA
  have hZ2 : va_Zq "jdk/internal/util/Preconditions" "SIOOBE_FORMATTER" "Ljava/util/function/BiFunction;" (fun q => s.heap.size ≤ q) s s.heap := va_Zqof (hts (.laysStatic "jdk/internal/util/Preconditions" "SIOOBE_FORMATTER" "Ljava/util/function/BiFunction;") (by decide +kernel)) (hts (.initialized "jdk/internal/util/Preconditions") (by decide +kernel)) (hs (.isRef (.static "jdk/internal/util/Preconditions" "SIOOBE_FORMATTER" "Ljava/util/function/BiFunction;")) (by decide +kernel)) hA
  obtain ⟨t0, hZ3⟩ : ∃ t0 : Nat, va_Z "jdk/internal/util/Preconditions" "SIOOBE_FORMATTER" "Ljava/util/function/BiFunction;" .null (fun q => s.heap.size ≤ q) s s.heap ∨ va_Z "jdk/internal/util/Preconditions" "SIOOBE_FORMATTER" "Ljava/util/function/BiFunction;" (.ref t0) (fun q => s.heap.size ≤ q) s s.heap := by
    rcases hZ2 with z | ⟨t, z⟩
    · exact ⟨0, Or.inl z⟩
    · exact ⟨t, Or.inr z⟩
  obtain ⟨c0, hc0⟩ := la_arr (hts (.arrayClass .int) (by decide +kernel))
  obtain ⟨c1, hc1⟩ := la_arr (hts (.arrayClass .long) (by decide +kernel))
  obtain ⟨c2, hc2⟩ := la_arr (hts (.arrayClass .char) (by decide +kernel))
  obtain ⟨c3, hc3⟩ := la_arr (hts (.arrayClass .boolean) (by decide +kernel))
  have hK0 : ∀ q : Nat, ∃ d : ClassId × (Nat → Nat), ∀ x, vwCl[q]? = some x → u_Kn s x.1 x.2.1 x.2.2 d.1 d.2 := by
    intro q
    cases hq : vwCl[q]? with
    | none => exact ⟨(0, fun _ => 0), fun x hx => by cases hx⟩
    | some x =>
      have hlt : q < 8 := by
        have := (List.getElem?_eq_some_iff.mp hq).1
        rw [la_len] at this
        exact this
      have hin := la_inst q hlt
      rw [List.getD_eq_getElem?_getD, hq] at hin
      obtain ⟨C, T, N⟩ := x
      obtain ⟨cC, iS, hk⟩ := u_known (C := C) (T := T) (N := N) (fun w hw => hts w (am_tb_in hw)) (am_cl hq).1 (hts _ hin)
      exact ⟨(cC, iS), fun y hy => by cases hy; exact hk⟩
  obtain ⟨D, hD⟩ := Classical.axiomOfChoice hK0
  let G : am_G := ((fun q => (D q).1, fun q => (D q).2), fun i => if i = 0 then c0 else if i = 1 then c1 else if i = 2 then c2 else c3)
  have hK : va_K G.1 vwCl (am_tys G.2) s := by
    refine ⟨fun q x hq => hD q x hq, fun k x hk => ?_⟩
    have hk4 : k < 4 := (List.getElem?_eq_some_iff.mp hk).1
    rcases (show k = 0 ∨ k = 1 ∨ k = 2 ∨ k = 3 by omega) with rfl | rfl | rfl | rfl
    · cases hk; exact hc0
    · cases hk; exact hc1
    · cases hk; exact hc2
    · cases hk; exact hc3
  have h79 : (Term.string "ObjectTexts$Teller" 79).eval #[Value.ref b] s none [] s = some (.ref (adK 0)) := by
    obtain ⟨a9, -, -, -, q1, -⟩ := Cond.exactly_spec (args := #[Value.ref b]) (first := s) (o := none) (s := s) (idx := []) (t := .string "ObjectTexts$Teller" 79) (cls := "java/lang/String") (hs (.exactly (.string "ObjectTexts$Teller" 79) "java/lang/String") (by decide +kernel))
    rw [q1, la_eqR (hs (.eq (.string "ObjectTexts$Signs" 9) (.string "ObjectTexts$Teller" 79)) (by decide +kernel)) (hev 0 (by omega)) q1]
  refine ⟨G, la_mu b t0 adK adV, ⟨hX, hbl, hL⟩, fun K => ?_⟩
  have hRO : am_RO (la_mu b t0 adK adV) (fun q => s.heap.size ≤ q) s s.heap := by
    refine ⟨⟨fun i hi => ?_, fun i j hi hj e => ?_⟩, fun q hq => ?_, hZ1, hZ3⟩
    · dsimp only
      rw [la_muK hi, la_muV hi]
      exact hS4.1 i hi
    · dsimp only at e
      rw [la_muK hi, la_muK hj] at e
      exact hS4.2 i j hi hj e
    · simp only [am_strT, List.mem_cons, List.not_mem_nil, or_false] at hq
      rcases hq with rfl | rfl | rfl | rfl | rfl
      · exact vk_R.of (hts (.stringRef "ObjectTexts$Signs" 9 " abcdefghijklmnopqrstuvwxyz0123456789+-*/<>=?!_") (by decide +kernel)) (by rw [la_muK (i := 0) (by omega)]; exact hev 0 (by omega))
      · exact vk_R.of (hts (.stringRef "ObjectTexts$Store" 37 "nil") (by decide +kernel)) (by rw [la_muK (i := 2) (by omega)]; exact hev 2 (by omega))
      · exact vk_R.of (hts (.stringRef "ObjectTexts$Store" 49 "quote") (by decide +kernel)) (by rw [la_muK (i := 3) (by omega)]; exact hev 3 (by omega))
      · exact vk_R.of (hts (.stringRef "ObjectTexts$Teller" 73 "0123456789") (by decide +kernel)) (by rw [la_muK (i := 1) (by omega)]; exact hev 1 (by omega))
      · exact vk_R.of (hts (.stringRef "ObjectTexts$Teller" 79 " abcdefghijklmnopqrstuvwxyz0123456789+-*/<>=?!_") (by decide +kernel)) (by rw [la_muK (i := 0) (by omega)]; exact h79)
  rw [lg_entry_eq]
  have hlv := lv_entry [Value.ref b] (n := 4) (Nat.le_of_ble_eq_true rfl)
  refine K ⟨hx, hb, hml, hown, fun w hw => hts w (am_tb_in hw), hK, ok_La_law, hlk, hret, fun z => by cases z⟩ (fun q hq => hq) (la_mu b t0 adK adV) s.heap [] _ ⟨(fun k q hk => by simp [am_W] at hk), ⟨(fun i j p q hp => by simp [am_W] at hp), (fun k q hk => by simp [am_W] at hk)⟩, va_S.rf, fun _ _ => rfl, ⟨hlv.1, hlv.2.1, rfl, fun i v hv => ?_⟩, (fun x hx => nomatch hx), fun v hv => ?_, (fun v hv => nomatch hv), by decide, Nat.le_refl _, hRO⟩
  · cases i with
    | zero =>
      cases hv
      exact hlv.2.2 (0, .ref b) (by simp [lv_args])
    | succ i =>
      exfalso
      rcases (show i = 0 ∨ i = 1 ∨ i = 2 ∨ 3 ≤ i by omega) with rfl | rfl | rfl | z
      · cases hv
      · cases hv
      · cases hv
      · rw [List.getElem?_eq_none (by simp; omega)] at hv
        cases hv
  · simp only [List.mem_cons, List.not_mem_nil, or_false] at hv
    rcases hv with hv | hv | hv | hv
    · cases hv; exact Or.inr (by decide)
    · cases hv
    · cases hv
    · cases hv
