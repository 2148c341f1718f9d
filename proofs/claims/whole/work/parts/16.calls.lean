/-! the kinds of call -/
def am_okVb (n : Nat) : Value → Bool
  | .ref k => Nat.blt k n || Nat.ble 1000000 k
  | _ => true
def am_okCb (n : Nat) : am_C → Bool
  | .inl _ => true
  | .inr q => q.2.all (am_okVb n)
theorem am_okVb_ok {n : Nat} {v : Value} (h : am_okVb n v = true) : am_okV n v := by
  cases v <;> try trivial
  simp only [am_okVb, Bool.or_eq_true] at h
  rcases h with h | h
  · exact Or.inl (Nat.le_of_ble_eq_true h)
  · exact Or.inr (Nat.le_of_ble_eq_true h)
theorem am_okHb_ok {n : Nat} {h : am_H} (hh : h.all (am_okCb n) = true) : am_okH n h := by
  intro d hd
  have := List.all_eq_true.mp hh d hd
  cases d with
  | inl _ => trivial
  | inr q => exact fun v hv => am_okVb_ok (List.all_eq_true.mp this v hv)
theorem am_good {w : Jvm.Cond} (h : w ∈ am_tb) : w ∈ am_tb ∧ ((w.onTables && w.keeps) = true ∨ ∃ ty, w = .arrayClass ty) := by
  refine ⟨h, ?_⟩
  have h1 := (List.mem_filter.mp h).2
  unfold am_goodW at h1
  rw [Bool.or_eq_true] at h1
  rcases h1 with h1 | h1
  · exact Or.inl h1
  · split at h1
    · exact Or.inr ⟨_, rfl⟩
    · cases h1
def am_par (y : MethodName) (n : Nat) : Bool := decide (y.cls ≠ "java/lang/invoke/MethodHandle" ∧ y.cls ≠ "java/lang/invoke/VarHandle" ∧ (parseMethodDescriptor y.desc).map (fun d => d.parameters.length) = some n)
def am_cwV (own : String) (idx : Nat) (y : MethodName) (Mc : am_M) (n : Nat) : Bool := am_par y n && (wsV own idx y.cls y [Jvm.Cond.code y Mc.1 Mc.2.2.1 Mc.2.2.2.1]).all (fun w => decide (w ∈ am_tb))
def am_cwS (own : String) (idx : Nat) (y : MethodName) (Mc : am_M) (n : Nat) : Bool := am_par y n && (va_wsS own idx y [Jvm.Cond.code y Mc.1 Mc.2.2.1 Mc.2.2.2.1]).all (fun w => decide (w ∈ am_tb))
def am_cwI (own : String) (idx : Nat) (y : MethodName) (Mc : am_M) (n : Nat) : Bool := am_par y n && decide (y.name = "<init>") && decide (Mc.2.2.2.1 = none) && ([.initialized y.cls, .methodLink own idx y, .instanceMethod y, .code y Mc.1 Mc.2.2.1 none] : List Jvm.Cond).all (fun w => decide (w ∈ am_tb))
theorem am_goodIn {ws : List Jvm.Cond} {w0 : Jvm.Cond} {y : MethodName} {Mc : am_M} (hw0 : w0 = Jvm.Cond.code y Mc.1 Mc.2.2.1 Mc.2.2.2.1) (h : (ws ++ [w0]).all (fun w => decide (w ∈ am_tb)) = true) : GoodIn am_tb (ws ++ am_ws y Mc) := by
  intro w hw
  rcases List.mem_append.mp hw with h1 | h1
  · exact am_good (of_decide_eq_true (List.all_eq_true.mp h w (List.mem_append_left _ h1)))
  · rcases List.mem_cons.mp h1 with h2 | h2
    · rw [h2, ← hw0]; exact am_good (of_decide_eq_true (List.all_eq_true.mp h w0 (List.mem_append_right _ List.mem_cons_self)))
    · exact am_good h2
theorem am_Pre_blind (G : am_G) (μ : Nat → Nat) (h : am_H) (sz : Nat) (av : List Value) : FrameBlind (va_Pc av (am_Pre G μ h sz)) := by
  intro a U g mk q
  obtain ⟨q0, q1, qP, qK, qD, qo, ql, qR⟩ := q
  exact ⟨q0, q1, qP, va_K.moved (u := U) (U := U.calling g mk a) (Vm.Alike.refl U.vm) qK, qD, qo, ql, am_RO.same (u := U) (U := U.calling g mk a) qR rfl⟩
section AMK
variable {p : Program} {l : Launch} {e : Env} {R : Room} {s : State} {m : MethodId} {args : Array Value} {below : List Frame} {meth : Method} {c : Code} {Q : State → Prop} {A : Nat → Prop} {H0 : Heap} {G : am_G} {μ0 : Nat → Nat} {n0 : Nat} {M : am_M} {k n pc : Nat} {ls : am_L} {h : am_H}
theorem am_hin {is : List Nat} {hc : am_H} {μ : Nat → Nat} (hil : is.length < 1000000) (hat0 : is.map (fun i => h[i]?) = hc.map (fun d => some (am_renC is d))) : ∀ (j : Nat) (q : Nat × va_E), (am_W G.2 (am_in is μ) 0 hc)[j]? = some q → ∃ i : Nat, is[j]? = some i ∧ (am_W G.2 μ 0 h)[i]? = some q := by
  have hcl : is.length = hc.length := by
    have := congrArg List.length hat0
    simpa using this
  intro j q hq
  obtain ⟨d, hd, rfl⟩ := am_W_of hq
  have hj : j < is.length := by have := (List.getElem?_eq_some_iff.mp hd).1; omega
  have h1 : is[j]? = some is[j] := List.getElem?_eq_getElem hj
  have h2 : (is.map (fun i => h[i]?))[j]? = some (h[is[j]]?) := by rw [List.getElem?_map, h1]; rfl
  rw [hat0, List.getElem?_map, hd] at h2
  have h2 := (Option.some.inj h2).symm
  refine ⟨is[j], h1, ?_⟩
  rw [am_W_at h2, am_ren_e]
  congr 2
  unfold am_in
  rw [show Nat.blt j 1000000 = true from Nat.ble_eq_true_of_le (by omega)]
  simp only [cond]
  rw [List.getD_eq_getElem?_getD, h1]
  rfl
/-- the callee's start -/
theorem am_start {is : List Nat} {hc : am_H} {st0 : List Value} {μ : Nat → Nat} {H : Heap} {locs : List Loc} {lsA : Array Slot} (hnd : am_ndb is = true) (hil : is.length < 1000000) (hat0 : is.map (fun i => h[i]?) = hc.map (fun d => some (am_renC is d))) (hokc : hc.all (am_okCb hc.length) = true) (F : am_Fix p s m args meth c G M) (hA : ∀ q, H0.size ≤ q → A q) (hat : am_At s A H0 G μ0 n0 M μ H locs lsA ls st0 h) (U : State) (hU : U.heap = H) (hW : s.WarmedH U.vm) : am_Pre G (am_in is μ) hc H.size U := by
  obtain ⟨hx, hb, hml, hown, hts, hK, hM, hlk, hret, hini⟩ := id F
  obtain ⟨hP, hD, hS, hag, hl, okH, okL, okS, hlen, hn0, hRO⟩ := id hat
  have hcl : is.length = hc.length := by
    have := congrArg List.length hat0
    simpa using this
  have hin := am_hin (G := G) (μ := μ) hil hat0
  refine ⟨by rw [hU], fun j q hq => ?_, va_K.moved hW.alike hK, ⟨fun i j x y hx hy hxy => ?_, fun _ _ _ => trivial⟩, am_okHb_ok hokc, by omega, ?_⟩
  · obtain ⟨i, -, hi⟩ := hin j q hq
    rw [hU]
    exact hP i q hi
  · obtain ⟨i1, a1, b1⟩ := hin i x hx
    obtain ⟨i2, a2, b2⟩ := hin j y hy
    have h9 := hD.1 i1 i2 _ _ b1 b2 hxy
    subst h9
    have z1 := am_pos_at hnd a1
    have z2 := am_pos_at hnd a2
    exact Option.some.inj (z1.symm.trans z2)
  · rw [hU]
    refine ((hRO.warm hW).narrow (fun q hq => ?_)).ag (fun i hi => ?_)
    · rcases hq with ⟨j, ee, hj⟩ | hq
      · obtain ⟨i, -, hi⟩ := hin j _ hj
        exact hD.2 i _ hi
      · exact hA q (Nat.le_trans hS.1 hq)
    · unfold am_in
      have h1 : Nat.blt i 1000000 = false := by
        cases hq : Nat.blt i 1000000 with
        | false => rfl
        | true => have := Nat.le_of_ble_eq_true hq; omega
      rw [h1]
      rfl
theorem am_ren_map (is : List Nat) (μ : Nat → Nat) (vs : List Value) : vs.map (am_v (am_in is μ)) = (vs.map (am_ren is)).map (am_v μ) := by
  rw [List.map_map]
  exact List.map_congr_left fun v _ => am_ren_v is μ v
set_option maxHeartbeats 4000000 in
/-- a method of an object of our own -/
theorem aw_callV {y : MethodName} {Mc : am_M} {fr lo o ci nx a b idx : Nat} {kv : Value} {fs As : List Value} {is : List Nat} {hc : am_H} {nc gl mc ms : Nat} {Post : Option Value → am_H → Prop} {rest : List Value} (hC : Con l y Mc fr lo (.ref o :: As) hc nc gl mc ms Post) (is0 : is = is) (hr : am_row? M.2.2.2.2.2 pc = some (pc, .invokevirtual idx, nx, a, b, kv)) (hw : am_cwV M.2.1 idx y Mc As.length = true) (hrec : hc[o]? = some (.inr (ci, fs))) (hci : (vwCl[ci]?).map (fun q => q.1) = some y.cls) (ho : Nat.blt o 1000000 = true) (hnd : am_ndb is = true) (hil : is.length < 1000000) (hat0 : is.map (fun i => h[i]?) = hc.map (fun d => some (am_renC is d))) (hokc : hc.all (am_okCb hc.length) = true) (hpv : (is.drop nc).all (Nat.ble n0) = true) (hfrm : am_frm is (is.drop nc) 0 h = true) (hls : ls.all (am_nrL (is.drop nc)) = true) (hrs : rest.all (am_nr (is.drop nc)) = true) (hsm : h.length + gl < 1000000)
    (h8 : (rest.map fun v => v.category).sum ≤ 8) (hf : fr + 1 ≤ R.frames) (hlo : 8 + (Mc.2.2.1 + 11) + lo ≤ R.locals) (hmc : k + mc ≤ R.cells) (hms : n + ms ≤ R.slots)
    (K : ∀ (r : Option Value) (h' : am_H), Post r h' → h'.length = hc.length + gl → AW p l e R s m args below meth c Q A H0 G μ0 n0 M (k + mc) (n + ms) (pc + 3) ls ((r.map (am_ren (am_is2 is h.length gl))).toList ++ rest) (am_back is gl h h')) : AW p l e R s m args below meth c Q A H0 G μ0 n0 M k n pc ls ((As.map (am_ren is)).reverse ++ am_ren is (.ref o) :: rest) h := by
  refine aw_callR (st0 := (As.map (am_ren is)).reverse ++ am_ren is (.ref o) :: rest) (av := #[]) hnd hil hat0 hpv hfrm hls hrs (fun v hv => List.mem_append_right _ (List.mem_cons_of_mem _ hv)) hsm (fun μ H locs lsA F hA hat => ?_) K
  obtain ⟨hx, hb, hml, hown, hts, hK, hM, hlk, hret, hini⟩ := id F
  obtain ⟨hP, hD, hS, hag, hl, okH, okL, okS, hlen, hn0, hRO⟩ := id hat
  obtain ⟨hd, hnx, -⟩ := am_row_dec hM hr rfl
  have hpre := am_start hnd hil hat0 hokc F hA hat
  simp only [am_cwV, Bool.and_eq_true] at hw
  have hpar := of_decide_eq_true hw.1
  have hT : GoodIn am_tb (wsV M.2.1 idx y.cls y (am_ws y Mc)) := am_goodIn rfl hw.2
  have hrecv : ∃ cellB : Cell, H[am_in is μ o]? = some cellB ∧ cellB.vm.isStatics = false ∧ s.vm.findClass y.cls = some cellB.cls := by
    obtain ⟨q, hq, hqc⟩ := Option.map_eq_some_iff.mp hci
    have hP0 : va_P G.1 vwCl (am_W G.2 (am_in is μ) 0 hc) H := fun j z hz => by
      obtain ⟨i, -, hi⟩ := am_hin hil hat0 j z hz
      exact hP i z hi
    obtain ⟨cell, g1, g2, g3⟩ := va_recv hK hP0 hq (am_W_at hrec)
    rw [← hqc]
    exact ⟨cell, g1, g2, g3⟩
  have hM1 := hC G (am_in is μ) H.size
  have hlenA : (As.map (am_v (am_in is μ))).length = As.length := List.length_map _
  refine va_runV (As := As.map (am_v (am_in is μ))) (rest := rest.map (am_v μ)) (b := am_in is μ o) ⟨hx, hb, hml, hown, hts⟩ hM1 (cwV As.length hts hT rfl rfl rfl ⟨rfl, hpar⟩ ⟨hf, hlo⟩) ⟨am_Pre_blind _ _ _ _ _, hrecv, fun U hU hW => ⟨rfl, hpre U hU hW⟩⟩ rfl hlenA hl.1 ?_ ?_ hd ⟨hmc, hms⟩
  · show List.map (am_v μ) ((As.map (am_ren is)).reverse ++ am_ren is (.ref o) :: rest) = _
    rw [List.map_append, List.map_reverse, List.map_cons, am_ren_map is μ As]
    congr 2
    rw [← am_ren_v]
    rfl
  · refine lv_room ?_
    rw [List.map_map]
    have : (rest.map ((fun v => v.category) ∘ am_v μ)) = rest.map (fun v => v.category) := List.map_congr_left fun v _ => am_v_cat μ v
    rw [this]
    exact h8
set_option maxHeartbeats 4000000 in
/-- a static method -/
theorem aw_callS {y : MethodName} {Mc : am_M} {fr lo nx a b idx : Nat} {kv : Value} {As : List Value} {is : List Nat} {hc : am_H} {nc gl mc ms : Nat} {Post : Option Value → am_H → Prop} {rest : List Value} (hC : Con l y Mc fr lo As hc nc gl mc ms Post) (is0 : is = is) (hr : am_row? M.2.2.2.2.2 pc = some (pc, .invokestatic idx, nx, a, b, kv)) (hw : am_cwS M.2.1 idx y Mc As.length = true) (hnd : am_ndb is = true) (hil : is.length < 1000000) (hat0 : is.map (fun i => h[i]?) = hc.map (fun d => some (am_renC is d))) (hokc : hc.all (am_okCb hc.length) = true) (hpv : (is.drop nc).all (Nat.ble n0) = true) (hfrm : am_frm is (is.drop nc) 0 h = true) (hls : ls.all (am_nrL (is.drop nc)) = true) (hrs : rest.all (am_nr (is.drop nc)) = true) (hsm : h.length + gl < 1000000)
    (h8 : (rest.map fun v => v.category).sum ≤ 8) (hf : fr + 1 ≤ R.frames) (hlo : 8 + (Mc.2.2.1 + 11) + lo ≤ R.locals) (hmc : k + mc ≤ R.cells) (hms : n + ms ≤ R.slots)
    (K : ∀ (r : Option Value) (h' : am_H), Post r h' → h'.length = hc.length + gl → AW p l e R s m args below meth c Q A H0 G μ0 n0 M (k + mc) (n + ms) (pc + 3) ls ((r.map (am_ren (am_is2 is h.length gl))).toList ++ rest) (am_back is gl h h')) : AW p l e R s m args below meth c Q A H0 G μ0 n0 M k n pc ls ((As.map (am_ren is)).reverse ++ rest) h := by
  refine aw_callR (st0 := (As.map (am_ren is)).reverse ++ rest) (av := #[]) hnd hil hat0 hpv hfrm hls hrs (fun v hv => List.mem_append_right _ hv) hsm (fun μ H locs lsA F hA hat => ?_) K
  obtain ⟨hx, hb, hml, hown, hts, hK, hM, hlk, hret, hini⟩ := id F
  obtain ⟨hP, hD, hS, hag, hl, okH, okL, okS, hlen, hn0, hRO⟩ := id hat
  obtain ⟨hd, hnx, -⟩ := am_row_dec hM hr rfl
  have hpre := am_start hnd hil hat0 hokc F hA hat
  simp only [am_cwS, Bool.and_eq_true] at hw
  have hpar := of_decide_eq_true hw.1
  have hT : GoodIn am_tb (va_wsS M.2.1 idx y (am_ws y Mc)) := am_goodIn rfl hw.2
  have hM1 := hC G (am_in is μ) H.size
  have hlenA : (As.map (am_v (am_in is μ))).length = As.length := List.length_map _
  refine va_runS (As := As.map (am_v (am_in is μ))) (rest := rest.map (am_v μ)) ⟨hx, hb, hml, hown, hts⟩ hM1 (va_cwS As.length hts hT rfl rfl rfl hpar ⟨hf, hlo⟩) ⟨am_Pre_blind _ _ _ _ _, fun U hU hW => ⟨rfl, hpre U hU hW⟩⟩ rfl hlenA hl.1 ?_ ?_ hd ⟨hmc, hms⟩
  · show List.map (am_v μ) ((As.map (am_ren is)).reverse ++ rest) = _
    rw [List.map_append, List.map_reverse, am_ren_map is μ As]
  · refine lv_room ?_
    rw [List.map_map]
    have : (rest.map ((fun v => v.category) ∘ am_v μ)) = rest.map (fun v => v.category) := List.map_congr_left fun v _ => am_v_cat μ v
    rw [this]
    exact h8
set_option maxHeartbeats 4000000 in
/-- a constructor -/
theorem aw_callI {y : MethodName} {Mc : am_M} {fr lo o nx a b idx : Nat} {kv : Value} {As : List Value} {is : List Nat} {hc : am_H} {nc gl mc ms : Nat} {Post : Option Value → am_H → Prop} {rest : List Value} (hC : Con l y Mc fr lo (.ref o :: As) hc nc gl mc ms Post) (is0 : is = is) (hr : am_row? M.2.2.2.2.2 pc = some (pc, .invokespecial idx, nx, a, b, kv)) (hw : am_cwI M.2.1 idx y Mc As.length = true) (hnd : am_ndb is = true) (hil : is.length < 1000000) (hat0 : is.map (fun i => h[i]?) = hc.map (fun d => some (am_renC is d))) (hokc : hc.all (am_okCb hc.length) = true) (hpv : (is.drop nc).all (Nat.ble n0) = true) (hfrm : am_frm is (is.drop nc) 0 h = true) (hls : ls.all (am_nrL (is.drop nc)) = true) (hrs : rest.all (am_nr (is.drop nc)) = true) (hsm : h.length + gl < 1000000)
    (h8 : (rest.map fun v => v.category).sum ≤ 8) (hf : fr + 1 ≤ R.frames) (hlo : 8 + (Mc.2.2.1 + 11) + lo ≤ R.locals) (hmc : k + mc ≤ R.cells) (hms : n + ms ≤ R.slots)
    (K : ∀ (r : Option Value) (h' : am_H), Post r h' → h'.length = hc.length + gl → AW p l e R s m args below meth c Q A H0 G μ0 n0 M (k + mc) (n + ms) (pc + 3) ls ((r.map (am_ren (am_is2 is h.length gl))).toList ++ rest) (am_back is gl h h')) : AW p l e R s m args below meth c Q A H0 G μ0 n0 M k n pc ls ((As.map (am_ren is)).reverse ++ am_ren is (.ref o) :: rest) h := by
  refine aw_callR (st0 := (As.map (am_ren is)).reverse ++ am_ren is (.ref o) :: rest) (av := #[]) hnd hil hat0 hpv hfrm hls hrs (fun v hv => List.mem_append_right _ (List.mem_cons_of_mem _ hv)) hsm (fun μ H locs lsA F hA hat => ?_) K
  obtain ⟨hx, hb, hml, hown, hts, hK, hM, hlk, hret, hini⟩ := id F
  obtain ⟨hP, hD, hS, hag, hl, okH, okL, okS, hlen, hn0, hRO⟩ := id hat
  obtain ⟨hd, hnx, -⟩ := am_row_dec hM hr rfl
  have hpre := am_start hnd hil hat0 hokc F hA hat
  simp only [am_cwI, Bool.and_eq_true] at hw
  obtain ⟨⟨⟨hw1, hw2⟩, hw3⟩, hw4⟩ := hw
  have hpar := of_decide_eq_true hw1
  have hnm := of_decide_eq_true hw2
  have hrn := of_decide_eq_true hw3
  have mem : ∀ w ∈ ([.initialized y.cls, .methodLink M.2.1 idx y, .instanceMethod y, .code y Mc.1 Mc.2.2.1 none] : List Jvm.Cond), w ∈ am_tb := fun w h1 => of_decide_eq_true (List.all_eq_true.mp hw4 w h1)
  have hT : GoodIn am_tb (am_ws y Mc) := by
    intro w h1
    rcases List.mem_cons.mp h1 with h2 | h2
    · rw [h2, hrn]; exact am_good (mem _ (by simp))
    · exact am_good h2
  have hws : am_ws y Mc = Jvm.Cond.code y Mc.1 Mc.2.2.1 none :: am_tb := by unfold am_ws; rw [hrn]
  have hM1 := hC G (am_in is μ) H.size
  have hlenA : (As.map (am_v (am_in is μ))).length = As.length := List.length_map _
  refine va_runI (As := As.map (am_v (am_in is μ))) (rest := rest.map (am_v μ)) (b := am_in is μ o) ⟨hx, hb, hml, hown, hts⟩ hM1 (cwI As.length hts hT hws rfl rfl (hts _ (mem _ (by simp))) (hts _ (mem _ (by simp))) (hts _ (mem _ (by simp))) hnm hpar ⟨hf, hlo⟩) ⟨am_Pre_blind _ _ _ _ _, fun U hU hW => ⟨rfl, hpre U hU hW⟩⟩ rfl hlenA hl.1 ?_ ?_ hd ⟨hmc, hms⟩
  · show List.map (am_v μ) ((As.map (am_ren is)).reverse ++ am_ren is (.ref o) :: rest) = _
    rw [List.map_append, List.map_reverse, List.map_cons, am_ren_map is μ As]
    congr 2
    rw [← am_ren_v]
    rfl
  · refine lv_room ?_
    rw [List.map_map]
    have : (rest.map ((fun v => v.category) ∘ am_v μ)) = rest.map (fun v => v.category) := List.map_congr_left fun v _ => am_v_cat μ v
    rw [this]
    exact h8
end AMK
