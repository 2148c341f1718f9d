/-! the library's: Math.max, Math.min, System.arraycopy; a reference as an answer -/
section AMB
variable {p : Program} {l : Launch} {e : Env} {R : Room} {s : State} {m : MethodId} {args : Array Value} {below : List Frame} {meth : Method} {c : Code} {Q : State → Prop} {A : Nat → Prop} {H0 : Heap} {G : am_G} {μ0 : Nat → Nat} {n0 : Nat} {M : am_M} {k n pc : Nat} {ls : am_L} {st : List Value} {h : am_H} {nx a b idx : Nat} {kv : Value}
theorem am_sum8 {st : List Value} (μ : Nat → Nat) (h8 : (st.map fun v => v.category).sum ≤ 8) : ((st.map (am_v μ)).map fun v => v.category).sum ≤ 8 := by
  rw [List.map_map]
  have : (st.map ((fun v => v.category) ∘ am_v μ)) = st.map (fun v => v.category) := List.map_congr_left fun v _ => am_v_cat μ v
  rw [this]
  exact h8
def am_wMax (own : String) (idx : Nat) : List Jvm.Cond := [.methodLink own idx Lib.Math.max.name, .static Lib.Math.max.name, .initialized "java/lang/Math", .code Lib.Math.max.name Lib.Math.max.code 2 (some .int)]
def am_wMin (own : String) (idx : Nat) : List Jvm.Cond := [.methodLink own idx Lib.Math.min.name, .static Lib.Math.min.name, .initialized "java/lang/Math", .code Lib.Math.min.name Lib.Math.min.code 2 (some .int)]
def am_wCpy (own : String) (idx : Nat) : List Jvm.Cond := [.methodLink own idx arraycopyName, .native arraycopyName, .static arraycopyName, .initialized "java/lang/System"]
def am_all (ws : List Jvm.Cond) : Bool := ws.all (fun w => decide (w ∈ am_tb))
theorem am_all_mem {ws : List Jvm.Cond} (h : am_all ws = true) {w : Jvm.Cond} (hw : w ∈ ws) : w ∈ am_tb := of_decide_eq_true (List.all_eq_true.mp h w hw)
theorem aw_max {x y : Int32} (hr : am_row? M.2.2.2.2.2 pc = some (pc, .invokestatic idx, nx, a, b, kv)) (hw : am_all (am_wMax M.2.1 idx) = true) (hf : 1 ≤ R.frames) (hlo : 21 ≤ R.locals) (h8 : (st.map fun v => v.category).sum ≤ 8) (hc : k ≤ R.cells) (hs : n ≤ R.slots) (K : AW p l e R s m args below meth c Q A H0 G μ0 n0 M k n nx ls (.int (if x < y then y else x) :: st) h) : AW p l e R s m args below meth c Q A H0 G μ0 n0 M k n pc ls (.int y :: .int x :: st) h := by
  intro F hA μ H locs lsA hat
  obtain ⟨hx, hb, hml, hown, hts, hK, hM, hlk, hret, hini⟩ := id F
  obtain ⟨hP, hD, hS, hag, hl, okH, okL, okS, hlen, hn0, hRO⟩ := id hat
  obtain ⟨hd, hnx, -⟩ := am_row_dec hM hr rfl
  have mem : ∀ {w : Jvm.Cond}, w ∈ am_wMax M.2.1 idx → w.before args s = true := fun h1 => hts _ (am_all_mem hw h1)
  refine va_mmax hx hb (by rw [hml]; exact hl.1.symm) hown (mem (by simp [am_wMax])) (mem (by simp [am_wMax])) (mem (by simp [am_wMax])) (mem (by simp [am_wMax])) hf (by have := am_sum8 μ h8; omega) hc hs hd ?_
  have := K F hA μ H locs lsA ⟨hP, hD, hS, hag, hl, okH, okL, fun w hw => by
    rcases List.mem_cons.mp hw with e1 | hw
    · subst e1; trivial
    · exact okS w (List.mem_cons_of_mem _ (List.mem_cons_of_mem _ hw)), hlen, hn0, hRO⟩
  rw [show nx = pc + 3 from hnx] at this
  exact this
theorem aw_min {x y : Int32} (hr : am_row? M.2.2.2.2.2 pc = some (pc, .invokestatic idx, nx, a, b, kv)) (hw : am_all (am_wMin M.2.1 idx) = true) (hf : 1 ≤ R.frames) (hlo : 21 ≤ R.locals) (h8 : (st.map fun v => v.category).sum ≤ 8) (hc : k ≤ R.cells) (hs : n ≤ R.slots) (K : AW p l e R s m args below meth c Q A H0 G μ0 n0 M k n nx ls (.int (if y < x then y else x) :: st) h) : AW p l e R s m args below meth c Q A H0 G μ0 n0 M k n pc ls (.int y :: .int x :: st) h := by
  intro F hA μ H locs lsA hat
  obtain ⟨hx, hb, hml, hown, hts, hK, hM, hlk, hret, hini⟩ := id F
  obtain ⟨hP, hD, hS, hag, hl, okH, okL, okS, hlen, hn0, hRO⟩ := id hat
  obtain ⟨hd, hnx, -⟩ := am_row_dec hM hr rfl
  have mem : ∀ {w : Jvm.Cond}, w ∈ am_wMin M.2.1 idx → w.before args s = true := fun h1 => hts _ (am_all_mem hw h1)
  refine va_mmin hx hb (by rw [hml]; exact hl.1.symm) hown (mem (by simp [am_wMin])) (mem (by simp [am_wMin])) (mem (by simp [am_wMin])) (mem (by simp [am_wMin])) hf (by have := am_sum8 μ h8; omega) hc hs hd ?_
  have := K F hA μ H locs lsA ⟨hP, hD, hS, hag, hl, okH, okL, fun w hw => by
    rcases List.mem_cons.mp hw with e1 | hw
    · subst e1; trivial
    · exact okS w (List.mem_cons_of_mem _ (List.mem_cons_of_mem _ hw)), hlen, hn0, hRO⟩
  rw [show nx = pc + 3 from hnx] at this
  exact this
set_option maxHeartbeats 4000000 in
theorem aw_copyi {q0 q1 len0 len1 N : Nat} {f g : Nat → Int32} {cnt : Int32} (hr : am_row? M.2.2.2.2.2 pc = some (pc, .invokestatic idx, nx, a, b, kv)) (hw : am_all (am_wCpy M.2.1 idx) = true) (hq0 : h[q0]? = some (.inl (0, len0, .inl f))) (hq1 : h[q1]? = some (.inl (0, len1, .inl g))) (h3 : ¬ cnt < 0) (hN : cnt.toNatClampNeg = N) (h4 : N ≤ len0) (h5 : N ≤ len1) (hf : 1 ≤ R.frames) (hlo : 60 ≤ R.locals) (h8 : (st.map fun v => v.category).sum ≤ 8) (K : AW p l e R s m args below meth c Q A H0 G μ0 n0 M k n nx ls st (h.set q1 (.inl (0, len1, .inl (va_cpy f g 0 0 N))))) : AW p l e R s m args below meth c Q A H0 G μ0 n0 M k n pc ls (.int cnt :: .int 0 :: .ref q1 :: .int 0 :: .ref q0 :: st) h := by
  intro F hA μ H locs lsA hat
  obtain ⟨hx, hb, hml, hown, hts, hK, hM, hlk, hret, hini⟩ := id F
  obtain ⟨hP, hD, hS, hag, hl, okH, okL, okS, hlen, hn0, hRO⟩ := id hat
  obtain ⟨hd, hnx, -⟩ := am_row_dec hM hr rfl
  have mem : ∀ {w : Jvm.Cond}, w ∈ am_wCpy M.2.1 idx → w.before args s = true := fun h1 => hts _ (am_all_mem hw h1)
  subst hN
  have z0 : (0 : Int32).toNatClampNeg = 0 := by decide
  have z1 : nativeFrameWords "java/lang/System" "arraycopy" 5 ≤ 40 := by decide +kernel
  refine va_copyi hx hb (by rw [hml]; exact hl.1.symm) hown (mem (by simp [am_wCpy])) (mem (by simp [am_wCpy])) (mem (by simp [am_wCpy])) (mem (by simp [am_wCpy])) hK hP hD hS q0 q1 0 0 (ty := .int) (am_W_at hq0) (am_W_at hq1) rfl rfl rfl (sp := 0) (dp := 0) (n := cnt) (by decide) (by decide) h3 (by rw [z0]; omega) (by rw [z0]; omega) (fun _ _ => rfl) hf (by have := am_sum8 μ h8; omega) hd (fun H1 locs1 hP1 hD1 hS1 => ?_)
  rw [z0] at hP1 hD1
  have ee := am_W_set0 G.2 μ (.inl (0, len1, .inl (va_cpy f g 0 0 cnt.toNatClampNeg))) h q1
  simp only [am_e] at ee
  rw [ee] at hP1 hD1
  have := K F hA μ H1 locs1 lsA ⟨hP1, hD1, hS1, hag, hl, by rw [List.length_set]; exact am_okH_set okH trivial, by rw [List.length_set]; exact okL, by rw [List.length_set]; exact am_okS_tl (am_okS_tl (am_okS_tl (am_okS_tl (am_okS_tl okS)))), by rw [List.length_set]; exact hlen, by rw [List.length_set]; exact hn0, hRO.kept hA hS hS1⟩
  rw [show nx = pc + 3 from hnx] at this
  exact this
set_option maxHeartbeats 4000000 in
theorem aw_copyl {q0 q1 len0 len1 N : Nat} {f g : Nat → Int64} {cnt : Int32} (hr : am_row? M.2.2.2.2.2 pc = some (pc, .invokestatic idx, nx, a, b, kv)) (hw : am_all (am_wCpy M.2.1 idx) = true) (hq0 : h[q0]? = some (.inl (1, len0, .inr (.inl f)))) (hq1 : h[q1]? = some (.inl (1, len1, .inr (.inl g)))) (h3 : ¬ cnt < 0) (hN : cnt.toNatClampNeg = N) (h4 : N ≤ len0) (h5 : N ≤ len1) (hf : 1 ≤ R.frames) (hlo : 60 ≤ R.locals) (h8 : (st.map fun v => v.category).sum ≤ 8) (K : AW p l e R s m args below meth c Q A H0 G μ0 n0 M k n nx ls st (h.set q1 (.inl (1, len1, .inr (.inl (va_cpy f g 0 0 N)))))) : AW p l e R s m args below meth c Q A H0 G μ0 n0 M k n pc ls (.int cnt :: .int 0 :: .ref q1 :: .int 0 :: .ref q0 :: st) h := by
  intro F hA μ H locs lsA hat
  obtain ⟨hx, hb, hml, hown, hts, hK, hM, hlk, hret, hini⟩ := id F
  obtain ⟨hP, hD, hS, hag, hl, okH, okL, okS, hlen, hn0, hRO⟩ := id hat
  obtain ⟨hd, hnx, -⟩ := am_row_dec hM hr rfl
  have mem : ∀ {w : Jvm.Cond}, w ∈ am_wCpy M.2.1 idx → w.before args s = true := fun h1 => hts _ (am_all_mem hw h1)
  subst hN
  have z0 : (0 : Int32).toNatClampNeg = 0 := by decide
  have z1 : nativeFrameWords "java/lang/System" "arraycopy" 5 ≤ 40 := by decide +kernel
  refine va_copyl hx hb (by rw [hml]; exact hl.1.symm) hown (mem (by simp [am_wCpy])) (mem (by simp [am_wCpy])) (mem (by simp [am_wCpy])) (mem (by simp [am_wCpy])) hK hP hD hS q0 q1 1 1 (ty := .long) (am_W_at hq0) (am_W_at hq1) rfl rfl rfl (sp := 0) (dp := 0) (n := cnt) (by decide) (by decide) h3 (by rw [z0]; omega) (by rw [z0]; omega) (fun _ _ => rfl) hf (by have := am_sum8 μ h8; omega) hd (fun H1 locs1 hP1 hD1 hS1 => ?_)
  rw [z0] at hP1 hD1
  have ee := am_W_set0 G.2 μ (.inl (1, len1, .inr (.inl (va_cpy f g 0 0 cnt.toNatClampNeg)))) h q1
  simp only [am_e] at ee
  rw [ee] at hP1 hD1
  have := K F hA μ H1 locs1 lsA ⟨hP1, hD1, hS1, hag, hl, by rw [List.length_set]; exact am_okH_set okH trivial, by rw [List.length_set]; exact okL, by rw [List.length_set]; exact am_okS_tl (am_okS_tl (am_okS_tl (am_okS_tl (am_okS_tl okS)))), by rw [List.length_set]; exact hlen, by rw [List.length_set]; exact hn0, hRO.kept hA hS hS1⟩
  rw [show nx = pc + 3 from hnx] at this
  exact this
end AMB
theorem aw_aret {p : Program} {l : Launch} {e : Env} {R : Room} {s : State} {m : MethodId} {args : Array Value} {below : List Frame} {meth : Method} {c : Code} {G : am_G} {μ0 : Nat → Nat} {n0 : Nat} {M : am_M} {k n pc q : Nat} {ls : am_L} {h h0 : am_H} {nx a b : Nat} {kv : Value} {Post : Option Value → am_H → Prop} {mc ms gl : Nat} {rt : FieldType} (hty : M.2.2.2.1 = some rt) (hrt : (∃ n, rt = .object n) ∨ ∃ t, rt = .array t) (hr : am_row? M.2.2.2.2.2 pc = some (pc, .areturn, nx, a, b, kv)) (hp : Post (some (.ref q)) h) (hg : h.length = h0.length + gl) (hk : k ≤ mc) (hn : n ≤ ms) : AW p l e R s m args below meth c (am_Q below args s G μ0 h0 n0 gl Post mc ms) (va_A (am_W G.2 μ0 0 h0) s.heap.size) s.heap G μ0 n0 M k n pc ls [.ref q] h := by
  intro F hA μ H locs lsA hat
  obtain ⟨hx, hb, hml, hown, hts, hK, hM, hlk, hret, hini⟩ := id F
  obtain ⟨hP, hD, hS, hag, hl, okH, okL, okS, hlen, hn0, hRO⟩ := id hat
  obtain ⟨hd, hnx, -⟩ := am_row_dec hM hr rfl
  refine W.widen hk hn ?_
  exact W.aret hx hb (by rw [hret]; exact hty) hrt (Or.inr ⟨μ q, rfl⟩) (fun t ht hW => ⟨⟨some (.ref q), h, μ, rfl, hp, hag, hg, hlen, okH, fun v hv => by cases hv; exact okS _ List.mem_cons_self, by rw [ht]; exact hP, va_K.moved hW.alike hK, hD⟩, hS.F ht⟩) hS.2.2 hd
