/-! constant texts: String literals, their bytes; two statics -/
section AMT
variable {p : Program} {l : Launch} {e : Env} {R : Room} {s : State} {m : MethodId} {args : Array Value} {below : List Frame} {meth : Method} {c : Code} {Q : State → Prop} {A : Nat → Prop} {H0 : Heap} {G : am_G} {μ0 : Nat → Nat} {n0 : Nat} {M : am_M} {k n pc : Nat} {ls : am_L} {st : List Value} {h : am_H} {nx a b idx : Nat} {kv : Value}
theorem aw_sval (i : Nat) (hi : i < 4) (hr : am_row? M.2.2.2.2.2 pc = some (pc, .getfield idx, nx, a, b, kv)) (hw : Jvm.Cond.fieldLink M.2.1 idx "java/lang/String" "value" "[B" ∈ am_tb) (K : AW p l e R s m args below meth c Q A H0 G μ0 n0 M k n nx ls (.ref (3000000 + i) :: st) h) : AW p l e R s m args below meth c Q A H0 G μ0 n0 M k n pc ls (.ref (2000000 + i) :: st) h := by
  intro F hA μ H locs lsA hat
  obtain ⟨hx, hb, hml, hown, hts, hK, hM, hlk, hret, hini⟩ := id F
  obtain ⟨hP, hD, hS, hag, hl, okH, okL, okS, hlen, hn0, hRO⟩ := id hat
  obtain ⟨hd, hnx, -⟩ := am_row_dec hM hr rfl
  obtain ⟨-, -, ⟨cf, kc, fi, f, cell, h1, h2, h3, h4, h5, h6⟩, -⟩ := hRO.1.1 i hi
  refine W.getf hx hb hown (hts _ hw) h1 h2 h3 h4 (v := .ref (μ (3000000 + i))) h5 rfl rfl hd ?_
  have := K F hA μ H locs lsA ⟨hP, hD, hS, hag, hl, okH, okL, fun w hw => by
    rcases List.mem_cons.mp hw with e1 | hw
    · subst e1; exact Or.inr (by omega)
    · exact okS w (List.mem_cons_of_mem _ hw), hlen, hn0, hRO⟩
  rw [show nx = pc + 3 from hnx] at this
  exact this
theorem aw_scod (i : Nat) (hi : i < 4) (hr : am_row? M.2.2.2.2.2 pc = some (pc, .getfield idx, nx, a, b, kv)) (hw : Jvm.Cond.fieldLink M.2.1 idx "java/lang/String" "coder" "B" ∈ am_tb) (K : AW p l e R s m args below meth c Q A H0 G μ0 n0 M k n nx ls (.int 0 :: st) h) : AW p l e R s m args below meth c Q A H0 G μ0 n0 M k n pc ls (.ref (2000000 + i) :: st) h := by
  intro F hA μ H locs lsA hat
  obtain ⟨hx, hb, hml, hown, hts, hK, hM, hlk, hret, hini⟩ := id F
  obtain ⟨hP, hD, hS, hag, hl, okH, okL, okS, hlen, hn0, hRO⟩ := id hat
  obtain ⟨hd, hnx, -⟩ := am_row_dec hM hr rfl
  obtain ⟨-, ⟨cf, kc, fi, f, cell, h1, h2, h3, h4, h5, h6⟩, -, -⟩ := hRO.1.1 i hi
  refine W.getf hx hb hown (hts _ hw) h1 h2 h3 h4 (v := .int 0) h5 rfl rfl hd ?_
  have := K F hA μ H locs lsA ⟨hP, hD, hS, hag, hl, okH, okL, fun w hw => by
    rcases List.mem_cons.mp hw with e1 | hw
    · subst e1; trivial
    · exact okS w (List.mem_cons_of_mem _ hw), hlen, hn0, hRO⟩
  rw [show nx = pc + 3 from hnx] at this
  exact this
theorem aw_slen (i : Nat) (hi : i < 4) (hr : am_row? M.2.2.2.2.2 pc = some (pc, .arraylength, nx, a, b, kv)) (K : AW p l e R s m args below meth c Q A H0 G μ0 n0 M k n nx ls (.int (nI (am_len4.getD i 0)) :: st) h) : AW p l e R s m args below meth c Q A H0 G μ0 n0 M k n pc ls (.ref (3000000 + i) :: st) h := by
  intro F hA μ H locs lsA hat
  obtain ⟨hx, hb, hml, hown, hts, hK, hM, hlk, hret, hini⟩ := id F
  obtain ⟨hP, hD, hS, hag, hl, okH, okL, okS, hlen, hn0, hRO⟩ := id hat
  obtain ⟨hd, hnx, -⟩ := am_row_dec hM hr rfl
  obtain ⟨-, -, -, cell, h1, h2, h3, h4, h5, h6, h7⟩ := hRO.1.1 i hi
  refine W.alen (n := nI (am_len4.getD i 0)) hx hb h1 h2 h5 rfl rfl hd ?_
  have := K F hA μ H locs lsA ⟨hP, hD, hS, hag, hl, okH, okL, fun w hw => by
    rcases List.mem_cons.mp hw with e1 | hw
    · subst e1; trivial
    · exact okS w (List.mem_cons_of_mem _ hw), hlen, hn0, hRO⟩
  rw [show nx = pc + 1 from hnx] at this
  exact this
theorem aw_sbyt (i j : Nat) (hi : i < 4) (hj : j < am_len4.getD i 0) (hr : am_row? M.2.2.2.2.2 pc = some (pc, .baload, nx, a, b, kv)) (K : AW p l e R s m args below meth c Q A H0 G μ0 n0 M k n nx ls (.int ((am_byt4.getD i []).getD j 0) :: st) h) : AW p l e R s m args below meth c Q A H0 G μ0 n0 M k n pc ls (.int (nI j) :: .ref (3000000 + i) :: st) h := by
  intro F hA μ H locs lsA hat
  obtain ⟨hx, hb, hml, hown, hts, hK, hM, hlk, hret, hini⟩ := id F
  obtain ⟨hP, hD, hS, hag, hl, okH, okL, okS, hlen, hn0, hRO⟩ := id hat
  obtain ⟨hd, hnx, -⟩ := am_row_dec hM hr rfl
  obtain ⟨-, -, -, cell, h1, h2, h3, h4, h5, h6, h7⟩ := hRO.1.1 i hi
  have hb4 : ∀ i, i < 4 → am_len4.getD i 0 < 100 := by decide
  have hl4 := hb4 i hi
  have hcl : (nI j).toNatClampNeg = j := nI_clamp (by omega)
  refine W.bald (v := .int ((am_byt4.getD i []).getD j 0)) hx hb h1 h2 h3 ?_ ?_ rfl rfl hd ?_
  · rw [hcl]
    rintro (z | z)
    · exact nI_pos (by omega) z
    · omega
  · rw [hcl]
    exact h6 j hj
  · have := K F hA μ H locs lsA ⟨hP, hD, hS, hag, hl, okH, okL, fun w hw => by
      rcases List.mem_cons.mp hw with e1 | hw
      · subst e1; trivial
      · exact okS w (List.mem_cons_of_mem _ (List.mem_cons_of_mem _ hw)), hlen, hn0, hRO⟩
    rw [show nx = pc + 1 from hnx] at this
    exact this
theorem aw_comp (hr : am_row? M.2.2.2.2.2 pc = some (pc, .getstatic idx, nx, a, b, kv)) (hw : Jvm.Cond.fieldLink M.2.1 idx "java/lang/String" "COMPACT_STRINGS" "Z" ∈ am_tb) (K : AW p l e R s m args below meth c Q A H0 G μ0 n0 M k n nx ls (.int 1 :: st) h) : AW p l e R s m args below meth c Q A H0 G μ0 n0 M k n pc ls st h := by
  intro F hA μ H locs lsA hat
  obtain ⟨hx, hb, hml, hown, hts, hK, hM, hlk, hret, hini⟩ := id F
  obtain ⟨hP, hD, hS, hag, hl, okH, okL, okS, hlen, hn0, hRO⟩ := id hat
  obtain ⟨hd, hnx, -⟩ := am_row_dec hM hr rfl
  obtain ⟨cf, kf, fi, f, ad, cell, h1, h2, h3, h4, h5, h6, h7, h8⟩ := hRO.2.2.1
  refine W.gets hx hb hown (hts _ hw) h1 h2 h3 h4 h5 (fun e => by rw [e] at h6; cases h6) h7 rfl hd ?_
  have := K F hA μ H locs lsA ⟨hP, hD, hS, hag, hl, okH, okL, fun w hw => by
    rcases List.mem_cons.mp hw with e1 | hw
    · subst e1; trivial
    · exact okS w hw, hlen, hn0, hRO⟩
  rw [show nx = pc + 3 from hnx] at this
  exact this
theorem aw_fmt (hr : am_row? M.2.2.2.2.2 pc = some (pc, .getstatic idx, nx, a, b, kv)) (hw : Jvm.Cond.fieldLink M.2.1 idx "jdk/internal/util/Preconditions" "SIOOBE_FORMATTER" "Ljava/util/function/BiFunction;" ∈ am_tb) (K0 : AW p l e R s m args below meth c Q A H0 G μ0 n0 M k n nx ls (.null :: st) h) (K1 : AW p l e R s m args below meth c Q A H0 G μ0 n0 M k n nx ls (.ref 4000000 :: st) h) : AW p l e R s m args below meth c Q A H0 G μ0 n0 M k n pc ls st h := by
  intro F hA μ H locs lsA hat
  obtain ⟨hx, hb, hml, hown, hts, hK, hM, hlk, hret, hini⟩ := id F
  obtain ⟨hP, hD, hS, hag, hl, okH, okL, okS, hlen, hn0, hRO⟩ := id hat
  obtain ⟨hd, hnx, -⟩ := am_row_dec hM hr rfl
  rcases hRO.2.2.2 with ⟨cf, kf, fi, f, ad, cell, h1, h2, h3, h4, h5, h6, h7, h8⟩ | ⟨cf, kf, fi, f, ad, cell, h1, h2, h3, h4, h5, h6, h7, h8⟩
  · refine W.gets hx hb hown (hts _ hw) h1 h2 h3 h4 h5 (fun e => by rw [e] at h6; cases h6) h7 rfl hd ?_
    have := K0 F hA μ H locs lsA ⟨hP, hD, hS, hag, hl, okH, okL, fun w hw => by
      rcases List.mem_cons.mp hw with e1 | hw
      · subst e1; trivial
      · exact okS w hw, hlen, hn0, hRO⟩
    rw [show nx = pc + 3 from hnx] at this
    exact this
  · refine W.gets hx hb hown (hts _ hw) h1 h2 h3 h4 h5 (fun e => by rw [e] at h6; cases h6) h7 rfl hd ?_
    have := K1 F hA μ H locs lsA ⟨hP, hD, hS, hag, hl, okH, okL, fun w hw => by
      rcases List.mem_cons.mp hw with e1 | hw
      · subst e1; exact Or.inr (by omega)
      · exact okS w hw, hlen, hn0, hRO⟩
    rw [show nx = pc + 3 from hnx] at this
    exact this
set_option maxHeartbeats 4000000 in
/-- a method of a String literal; it needs no cells -/
theorem aw_cT (i : Nat) {y : MethodName} {Mc : am_M} {fr lo : Nat} {As : List Value} {gl mc ms : Nat} {Post : Option Value → am_H → Prop} {rest : List Value} (hC : Con l y Mc fr lo (.ref (2000000 + i) :: As) [] 0 gl mc ms Post) (hi : i < 4) (hr : am_row? M.2.2.2.2.2 pc = some (pc, .invokevirtual idx, nx, a, b, kv)) (hw : am_cwV M.2.1 idx y Mc As.length = true) (hst : st = (As.map (am_ren [])).reverse ++ .ref (2000000 + i) :: rest) (hcl : y.cls = "java/lang/String") (hck : am_ck [] [] h n0 0 gl ls rest = true) (hrm : am_rm fr lo Mc.2.2.1 R = true) (hmc : k + mc ≤ R.cells) (hms : n + ms ≤ R.slots) (K : ∀ (r : Option Value) (h' : am_H), Post r h' → AW p l e R s m args below meth c Q A H0 G μ0 n0 M (k + mc) (n + ms) (pc + 3) ls ((r.map (am_ren (am_is2 [] h.length gl))).toList ++ rest) (am_back [] gl h h')) : AW p l e R s m args below meth c Q A H0 G μ0 n0 M k n pc ls st h := by
  simp only [am_ck, Bool.and_eq_true] at hck
  obtain ⟨⟨⟨⟨⟨⟨⟨⟨g1, g2⟩, g3⟩, g4⟩, g5⟩, g6⟩, g7⟩, g8⟩, g9⟩ := hck
  simp only [am_rm, Bool.and_eq_true] at hrm
  subst hst
  refine aw_callR (is := []) (hc := []) (nc := 0) (st0 := (As.map (am_ren [])).reverse ++ .ref (2000000 + i) :: rest) (av := #[]) g1 (by decide) rfl g4 g5 g6 g7 (fun v hv => List.mem_append_right _ (List.mem_cons_of_mem _ hv)) (Nat.le_of_ble_eq_true g8) (fun μ H locs lsA F hA hat => ?_) (fun r h' hp _ => K r h' hp)
  obtain ⟨hx, hb, hml, hown, hts, hK, hM, hlk, hret, hini⟩ := id F
  obtain ⟨hP, hD, hS, hag, hl, okH, okL, okS, hlen, hn0, hRO⟩ := id hat
  obtain ⟨hd, hnx, -⟩ := am_row_dec hM hr rfl
  have hpre := am_start (is := []) (hc := []) g1 (by decide) rfl g3 F hA hat
  simp only [am_cwV, Bool.and_eq_true] at hw
  have hpar := of_decide_eq_true hw.1
  have hT : GoodIn am_tb (wsV M.2.1 idx y.cls y (am_ws y Mc)) := am_goodIn rfl hw.2
  have hfar : am_in [] μ (2000000 + i) = μ (2000000 + i) := by
    unfold am_in
    have h1 : Nat.blt (2000000 + i) 1000000 = false := by
      cases hq : Nat.blt (2000000 + i) 1000000 with
      | false => rfl
      | true => have := Nat.le_of_ble_eq_true hq; omega
    rw [h1]
    rfl
  have hrecv : ∃ cellB : Cell, H[am_in [] μ (2000000 + i)]? = some cellB ∧ cellB.vm.isStatics = false ∧ s.vm.findClass y.cls = some cellB.cls := by
    obtain ⟨⟨cell, q1, q2, q3, -⟩, -⟩ := hRO.1.1 i hi
    rw [hfar, hcl]
    exact ⟨cell, q1, q2, q3⟩
  have hM1 := hC G (am_in [] μ) H.size
  have hlenA : (As.map (am_v (am_in [] μ))).length = As.length := List.length_map _
  refine va_runV (As := As.map (am_v (am_in [] μ))) (rest := rest.map (am_v μ)) (b := am_in [] μ (2000000 + i)) ⟨hx, hb, hml, hown, hts⟩ hM1 (cwV As.length hts hT rfl rfl rfl ⟨rfl, hpar⟩ ⟨Nat.le_of_ble_eq_true hrm.1, Nat.le_of_ble_eq_true hrm.2⟩) ⟨am_Pre_blind _ _ _ _ _, hrecv, fun U hU hW => ⟨rfl, hpre U hU hW⟩⟩ rfl hlenA hl.1 ?_ ?_ hd ⟨hmc, hms⟩
  · show List.map (am_v μ) ((As.map (am_ren [])).reverse ++ .ref (2000000 + i) :: rest) = _
    rw [List.map_append, List.map_reverse, List.map_cons, am_ren_map [] μ As, hfar]
    rfl
  · refine lv_room ?_
    rw [List.map_map]
    have : (rest.map ((fun v => v.category) ∘ am_v μ)) = rest.map (fun v => v.category) := List.map_congr_left fun v _ => am_v_cat μ v
    rw [this]
    exact Nat.le_of_ble_eq_true g9
end AMT
