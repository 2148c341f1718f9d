/-! rows are right -/
/-- of a class: its words are among the tables', its fields have types and names of their own -/
def am_okCl (q : vw_C) : Bool := (u_ws q.1 q.2.1 q.2.2).all (fun w => decide (w ∈ am_tb)) && (List.range q.2.2).all (fun k => (parseFieldDescriptor (q.2.1 k).2.2.1).isSome) && (List.range q.2.2).all (fun a => (List.range q.2.2).all (fun b => Nat.beq a b || decide ((q.2.1 a).2.1 ≠ (q.2.1 b).2.1)))
def am_okF (own : String) (idx ci k : Nat) : Bool := match vwCl[ci]? with
  | some (_, T, N) => Nat.blt k N && decide (Jvm.Cond.fieldLink own idx (T k).1 (T k).2.1 (T k).2.2.1 ∈ am_tb)
  | none => false
def am_tk : FieldType → Value → Bool
  | .int, .int _ => true
  | .long, .long _ => true
  | .boolean, .float _ => true
  | .object _, .null => true
  | .array _, .null => true
  | _, _ => false
def am_okP (own : String) (ini : Bool) (ci k : Nat) (kv : Value) : Bool := match vwCl[ci]? with
  | some (_, T, _) => (match parseFieldDescriptor (T k).2.2.1 with
    | some ty => am_tk ty kv
    | none => false) && (!(T k).2.2.2 || (ini && decide ((T k).1 = own)))
  | none => false
def am_okN (own : String) (idx ci : Nat) : Bool := match vwCl[ci]? with
  | some (C, _, N) => decide (Jvm.Cond.classLink own idx C ∈ am_tb) && decide (Jvm.Cond.instantiable C N ∈ am_tb) && decide (Jvm.Cond.initialized C ∈ am_tb)
  | none => false
def am_okK (own : String) (ini : Bool) (r : am_row) : Bool := match r with
  | (_, .iconst n, _, _, _, kv) => decide (kv = .int (Int32.ofInt n))
  | (_, .bipush n, _, _, _, kv) => decide (kv = .int (Int8.ofInt n).toInt32)
  | (_, .sipush n, _, _, _, kv) => decide (kv = .int (Int16.ofInt n).toInt32)
  | (_, .lconst n, _, _, _, kv) => decide (kv = .long (Int64.ofNat (n : Nat)))
  | (_, .ldc idx, _, _, _, kv) => (match kv with
    | .int v => decide (Jvm.Cond.constant own idx v ∈ am_tb)
    | .ref q => am_okStr own idx q
    | _ => false)
  | (_, .ldc2_w idx, _, _, _, kv) => (match kv with
    | .long v => decide (Jvm.Cond.constantLong own idx v ∈ am_tb)
    | _ => false)
  | (_, .iinc _ n, _, _, _, kv) => decide (kv = .int (Int32.ofInt n))
  | (pc, .goto off, _, a, _, _) => decide ((pc : Int) + off = (a : Int))
  | (pc, .ifCond _ off, _, a, _, _) => decide ((pc : Int) + off = (a : Int))
  | (pc, .if_icmp _ off, _, a, _, _) => decide ((pc : Int) + off = (a : Int))
  | (_, .getfield idx, _, a, b, _) => Nat.beq a 9999 || am_okF own idx a b
  | (_, .putfield idx, _, a, b, kv) => am_okF own idx a b && am_okP own ini a b kv
  | (_, .new idx, _, a, _, _) => am_okN own idx a
  | (_, .newarray at_, _, _, _, _) => decide (Jvm.Cond.arrayClass (newarray.typeOf at_) ∈ am_tb)
  | _ => true
def am_okRow (cc : ByteArray) (own : String) (ini : Bool) (r : am_row) : Bool := decide (decode cc r.1 = .ok (r.2.1, r.2.2.1 - r.1)) && (am_sw r.2.1 || Nat.beq r.2.2.1 (r.1 + am_len r.2.1)) && am_okK own ini r
def am_okM (M : am_M) : Bool := M.2.2.2.2.2.all (am_okRow M.1 M.2.1 M.2.2.2.2.1)
theorem am_row_at {M : am_M} {pc : Nat} {r : am_row} (hM : am_okM M = true) (hr : am_row? M.2.2.2.2.2 pc = some r) : r.1 = pc ∧ am_okRow M.1 M.2.1 M.2.2.2.2.1 r = true := by
  have h1 := List.find?_some (p := fun r : am_row => Nat.beq r.1 pc) hr
  refine ⟨Nat.eq_of_beq_eq_true h1, ?_⟩
  exact List.all_eq_true.mp hM r (List.mem_of_find?_eq_some hr)
theorem am_row_dec {M : am_M} {pc : Nat} {r : am_row} (hM : am_okM M = true) (hr : am_row? M.2.2.2.2.2 pc = some r) (hw : am_sw r.2.1 = false) : decode M.1 pc = .ok (r.2.1, am_len r.2.1) ∧ r.2.2.1 = pc + am_len r.2.1 ∧ am_okK M.2.1 M.2.2.2.2.1 r = true := by
  obtain ⟨h1, h2⟩ := am_row_at hM hr
  simp only [am_okRow, hw, Bool.and_eq_true, Bool.false_or, decide_eq_true_eq] at h2
  obtain ⟨⟨h3, h4⟩, h5⟩ := h2
  have h6 := Nat.eq_of_beq_eq_true h4
  rw [h1] at h3 h6
  rw [h6] at h3
  rw [Nat.add_sub_cancel_left] at h3
  exact ⟨h3, h6, h5⟩
theorem am_bool {x : Int32} (h : Nat.ble x.toBitVec.toNat 1 = true) : narrow .boolean (.int x) = .int x ∧ fits .boolean (.int x) = true := by
  have h1 := Nat.le_of_ble_eq_true h
  have h2 : x = 0 ∨ x = 1 := by
    rcases (show x.toBitVec.toNat = 0 ∨ x.toBitVec.toNat = 1 by omega) with h3 | h3
    · exact Or.inl (Int32.toBitVec_inj.mp (BitVec.eq_of_toNat_eq h3))
    · exact Or.inr (Int32.toBitVec_inj.mp (BitVec.eq_of_toNat_eq h3))
  rcases h2 with rfl | rfl <;> exact ⟨by decide, by decide⟩
theorem am_tk_fit {ty : FieldType} {kv v : Value} (h : am_tk ty kv = true) (hf : am_fit kv v = true) : narrow ty v = v ∧ fits ty v = true := by
  cases ty <;> cases kv <;> first | (cases h; done) | (cases v <;> first | (cases hf; done) | exact ⟨rfl, rfl⟩ | exact am_bool hf)
theorem am_fit_v {kv v : Value} (μ : Nat → Nat) (h : am_fit kv v = true) : am_fit kv (am_v μ v) = true := by
  cases kv <;> cases v <;> first | (cases h; done) | rfl | exact h
section AMS
variable {p : Program} {l : Launch} {e : Env} {R : Room} {s : State} {m : MethodId} {args : Array Value} {below : List Frame} {meth : Method} {c : Code} {H : Heap} {locs : List Loc} {cells slots : Nat} {Q : State → Prop}
variable {cc : ByteArray} {pc : Nat} {ls : Array Slot} {μ : Nat → Nat}
set_option maxHeartbeats 4000000 in
theorem am_stk_W {i : Instr} {st st' : List Value} (hs : am_stk i st = some st') (hx : p.tables.exec = Jvm.exec) (hb : c.code = cc) (hd : decode cc pc = .ok (i, am_len i)) (k : W p l e R s m args below meth c H locs cells slots Q (F0 m (pc + am_len i) ls (st'.map (am_v μ)))) : W p l e R s m args below meth c H locs cells slots Q (F0 m pc ls (st.map (am_v μ))) := by
  unfold am_stk at hs
  split at hs <;> (try (cases hs; done)) <;> (have hs := Option.some.inj hs; subst hs)
  · exact lv_iadd hx hb hd k
  · exact lv_isub hx hb hd k
  · exact lv_imul hx hb hd k
  · exact lv_iand hx hb hd k
  · exact lv_ior hx hb hd k
  · exact lv_ixor hx hb hd k
  · exact lv_ineg hx hb hd k
  · exact lv_ladd hx hb hd k
  · exact lv_lsub hx hb hd k
  · exact lv_lmul hx hb hd k
  · exact lv_land hx hb hd k
  · exact lv_lor hx hb hd k
  · exact lv_lxor hx hb hd k
  · exact lv_lneg hx hb hd k
  · exact lv_ishl hx hb hd k
  · exact lv_ishr hx hb hd k
  · exact lv_iushr hx hb hd rfl k
  · exact lv_lshl hx hb hd rfl k
  · exact lv_lshr hx hb hd rfl k
  · exact lv_lushr hx hb hd rfl k
  · exact lv_i2l hx hb hd rfl k
  · exact lv_l2i hx hb hd rfl k
  · exact lv_i2b hx hb hd rfl k
  · exact lv_i2s hx hb hd rfl k
  · exact lv_i2c hx hb hd rfl k
  · exact W.lcmp hx hb hd k
theorem am_stk_okS {n : Nat} {i : Instr} {st st' : List Value} (hs : am_stk i st = some st') (h : am_okS n st) : am_okS n st' := by
  unfold am_stk at hs
  split at hs <;> (try (cases hs; done)) <;> (have hs := Option.some.inj hs; subst hs; intro v hv; rcases List.mem_cons.mp hv with e | hv; (subst e; trivial); exact h v (by simp [hv]))
set_option maxHeartbeats 4000000 in
theorem am_dup_W {i : Instr} {st st' : List Value} (hs : am_dup i st = some st') (hx : p.tables.exec = Jvm.exec) (hb : c.code = cc) (hd : decode cc pc = .ok (i, am_len i)) (k : W p l e R s m args below meth c H locs cells slots Q (F0 m (pc + am_len i) ls (st'.map (am_v μ)))) : W p l e R s m args below meth c H locs cells slots Q (F0 m pc ls (st.map (am_v μ))) := by
  unfold am_dup at hs
  split at hs
  · obtain ⟨h1, rfl⟩ := am_c1_some hs
    exact lv_dup hx hb hd (by rw [am_v_cat]; exact h1) k
  · obtain ⟨h1, rfl⟩ := am_c1_some hs
    exact lv_pop hx hb hd (by rw [am_v_cat]; exact h1) k
  · obtain ⟨u, hu, hs⟩ := Option.bind_eq_some_iff.mp hs
    obtain ⟨h1, -⟩ := am_c1_some hu
    obtain ⟨h2, rfl⟩ := am_c1_some hs
    exact lv_dup_x1 hx hb hd (by rw [am_v_cat]; exact h1) (by rw [am_v_cat]; exact h2) k
  · obtain ⟨u, hu, hs⟩ := Option.bind_eq_some_iff.mp hs
    obtain ⟨u2, hu2, hs⟩ := Option.bind_eq_some_iff.mp hs
    obtain ⟨h1, -⟩ := am_c1_some hu
    obtain ⟨h2, -⟩ := am_c1_some hu2
    obtain ⟨h3, rfl⟩ := am_c1_some hs
    exact lv_dup_x2 hx hb hd (by rw [am_v_cat]; exact h1) (by rw [am_v_cat]; exact h2) (by rw [am_v_cat]; exact h3) k
  · rename_i a b t
    cases hb2 : Nat.beq a.category 2 with
    | true =>
      rw [hb2] at hs
      have hs := Option.some.inj hs
      subst hs
      exact lv_dup2_2 hx hb hd (by rw [am_v_cat]; exact Nat.eq_of_beq_eq_true hb2) k
    | false =>
      rw [hb2] at hs
      obtain ⟨u, hu, hs⟩ := Option.bind_eq_some_iff.mp hs
      obtain ⟨h1, -⟩ := am_c1_some hu
      obtain ⟨h2, rfl⟩ := am_c1_some hs
      exact lv_dup2_11 hx hb hd (by rw [am_v_cat]; exact h1) (by rw [am_v_cat]; exact h2) k
  · cases hs
theorem am_dup_mem {i : Instr} {st st' : List Value} (hs : am_dup i st = some st') : ∀ v ∈ st', v ∈ st := by
  unfold am_dup at hs
  split at hs
  · obtain ⟨h1, rfl⟩ := am_c1_some hs
    intro v hv
    simp at hv ⊢
    exact hv
  · obtain ⟨h1, rfl⟩ := am_c1_some hs
    intro v hv
    exact List.mem_cons_of_mem _ hv
  · obtain ⟨u, hu, hs⟩ := Option.bind_eq_some_iff.mp hs
    obtain ⟨h2, rfl⟩ := am_c1_some hs
    intro v hv
    simp at hv ⊢
    rcases hv with h | h | h | h <;> simp [h]
  · obtain ⟨u, hu, hs⟩ := Option.bind_eq_some_iff.mp hs
    obtain ⟨u2, hu2, hs⟩ := Option.bind_eq_some_iff.mp hs
    obtain ⟨h3, rfl⟩ := am_c1_some hs
    intro v hv
    simp at hv ⊢
    rcases hv with h | h | h | h | h <;> simp [h]
  · rename_i a b t
    cases hb2 : Nat.beq a.category 2 with
    | true =>
      rw [hb2] at hs
      have hs := Option.some.inj hs
      subst hs
      intro v hv
      simp at hv ⊢
      rcases hv with h | h | h <;> simp [h]
    | false =>
      rw [hb2] at hs
      obtain ⟨u, hu, hs⟩ := Option.bind_eq_some_iff.mp hs
      obtain ⟨h2, rfl⟩ := am_c1_some hs
      intro v hv
      simp at hv ⊢
      rcases hv with h | h | h | h | h <;> simp [h]
  · cases hs
theorem am_isI_some {q : Option (Option Value)} {v : Value} (h : am_isI q = some v) : ∃ x, v = .int x ∧ q = some (some (.int x)) := by
  unfold am_isI at h
  split at h
  · cases h; exact ⟨_, rfl, rfl⟩
  · cases h
theorem am_isL_some {q : Option (Option Value)} {v : Value} (h : am_isL q = some v) : ∃ x, v = .long x ∧ q = some (some (.long x)) := by
  unfold am_isL at h
  split at h
  · cases h; exact ⟨_, rfl, rfl⟩
  · cases h
theorem am_isR_some {q : Option (Option Value)} {v : Value} (h : am_isR q = some v) : ∃ x, v = .ref x ∧ q = some (some (.ref x)) := by
  unfold am_isR at h
  split at h
  · cases h; exact ⟨_, rfl, rfl⟩
  · cases h
theorem am_lod_W {i : Instr} {nL : Nat} {al : am_L} {st : List Value} {v : Value} (hs : am_lod i al = some v) (hl : am_ls μ ls nL al) (hx : p.tables.exec = Jvm.exec) (hb : c.code = cc) (hd : decode cc pc = .ok (i, am_len i)) (k : W p l e R s m args below meth c H locs cells slots Q (F0 m (pc + am_len i) ls ((v :: st).map (am_v μ)))) : W p l e R s m args below meth c H locs cells slots Q (F0 m pc ls (st.map (am_v μ))) := by
  unfold am_lod at hs
  split at hs
  · obtain ⟨x, rfl, h1⟩ := am_isI_some hs
    exact lv_iload_n hx hb hd rfl (hl.2.2.2 _ _ h1) k
  · obtain ⟨x, rfl, h1⟩ := am_isI_some hs
    exact lv_iload hx hb hd (hl.2.2.2 _ _ h1) k
  · obtain ⟨x, rfl, h1⟩ := am_isL_some hs
    exact lv_lload_n hx hb hd rfl (hl.2.2.2 _ _ h1) k
  · obtain ⟨x, rfl, h1⟩ := am_isL_some hs
    exact lv_lload hx hb hd (hl.2.2.2 _ _ h1) k
  · obtain ⟨x, rfl, h1⟩ := am_isR_some hs
    exact lv_aload_n hx hb hd rfl (hl.2.2.2 _ _ h1) k
  · obtain ⟨x, rfl, h1⟩ := am_isR_some hs
    exact lv_aload hx hb hd (hl.2.2.2 _ _ h1) k
  · cases hs
theorem am_lod_mem {i : Instr} {al : am_L} {v : Value} (hs : am_lod i al = some v) : some v ∈ al := by
  unfold am_lod at hs
  split at hs
  · obtain ⟨x, rfl, h1⟩ := am_isI_some hs; exact List.mem_of_getElem? h1
  · obtain ⟨x, rfl, h1⟩ := am_isI_some hs; exact List.mem_of_getElem? h1
  · obtain ⟨x, rfl, h1⟩ := am_isL_some hs; exact List.mem_of_getElem? h1
  · obtain ⟨x, rfl, h1⟩ := am_isL_some hs; exact List.mem_of_getElem? h1
  · obtain ⟨x, rfl, h1⟩ := am_isR_some hs; exact List.mem_of_getElem? h1
  · obtain ⟨x, rfl, h1⟩ := am_isR_some hs; exact List.mem_of_getElem? h1
  · cases hs
theorem am_s1_some {al : am_L} {i : Nat} {v : Value} {t : List Value} {q : am_L × List Value} (h : am_s1 al i v t = some q) : i < al.length ∧ am_low al i = true ∧ q = (al.set i (some v), t) := by
  unfold am_s1 at h
  cases hb : (Nat.blt i al.length && am_low al i) with
  | false => rw [hb] at h; cases h
  | true =>
    rw [hb] at h
    rw [Bool.and_eq_true] at hb
    exact ⟨Nat.le_of_ble_eq_true hb.1, hb.2, (Option.some.inj h).symm⟩
theorem am_s2_some {al : am_L} {i : Nat} {v : Value} {t : List Value} {q : am_L × List Value} (h : am_s2 al i v t = some q) : i + 1 < al.length ∧ am_low al i = true ∧ q = ((al.set i (some v)).set (i + 1) none, t) := by
  unfold am_s2 at h
  cases hb : (Nat.blt (i + 1) al.length && am_low al i) with
  | false => rw [hb] at h; cases h
  | true =>
    rw [hb] at h
    rw [Bool.and_eq_true] at hb
    exact ⟨Nat.le_of_ble_eq_true hb.1, hb.2, (Option.some.inj h).symm⟩
set_option maxHeartbeats 4000000 in
theorem am_sto_W {i : Instr} {nL : Nat} {al : am_L} {st : List Value} {kv : Value} {q : am_L × List Value} (hs : am_sto i kv al st = some q) (hi : ∀ j n, i = .iinc j n → kv = .int (Int32.ofInt n)) (hl : am_ls μ ls nL al) (hx : p.tables.exec = Jvm.exec) (hb : c.code = cc) (hd : decode cc pc = .ok (i, am_len i)) (k : ∀ ls' : Array Slot, am_ls μ ls' nL q.1 → W p l e R s m args below meth c H locs cells slots Q (F0 m (pc + am_len i) ls' (q.2.map (am_v μ)))) : W p l e R s m args below meth c H locs cells slots Q (F0 m pc ls (st.map (am_v μ))) := by
  have hn := hl.2.2.1
  unfold am_sto at hs
  split at hs
  · obtain ⟨h1, h2, rfl⟩ := am_s1_some hs
    exact lv_istore_n (lv := am_as μ al) hx hb hd rfl hl.has (by omega) rfl (fun ls' h' => k ls' (hl.of1 h2 h'))
  · obtain ⟨h1, h2, rfl⟩ := am_s1_some hs
    exact lv_istore (lv := am_as μ al) hx hb hd hl.has (by omega) rfl (fun ls' h' => k ls' (hl.of1 h2 h'))
  · obtain ⟨h1, h2, rfl⟩ := am_s1_some hs
    exact lv_astore_n (lv := am_as μ al) hx hb hd rfl hl.has (by omega) rfl (fun ls' h' => k ls' (hl.of1 (v := .ref _) h2 h'))
  · obtain ⟨h1, h2, rfl⟩ := am_s1_some hs
    exact lv_astore (lv := am_as μ al) hx hb hd hl.has (by omega) rfl (fun ls' h' => k ls' (hl.of1 (v := .ref _) h2 h'))
  · obtain ⟨h1, h2, rfl⟩ := am_s2_some hs
    exact lv_lstore_n (lv := am_as μ al) hx hb hd rfl hl.has (by omega) rfl (fun ls' h' => k ls' (hl.of2 h2 h'))
  · obtain ⟨h1, h2, rfl⟩ := am_s2_some hs
    exact lv_lstore (lv := am_as μ al) hx hb hd hl.has (by omega) rfl (fun ls' h' => k ls' (hl.of2 h2 h'))
  · have hkv := hi _ _ rfl
    cases hkv
    split at hs
    · rename_i x hx1
      obtain ⟨h1, h2, rfl⟩ := am_s1_some hs
      obtain ⟨k0, hk0⟩ := List.getElem?_of_mem (am_as_mem (μ := μ) (q := (_, .int x)).mpr ⟨.int x, hx1, rfl⟩)
      exact lv_iinc (lv := am_as μ al) hx hb hd hl.has hk0 rfl (by omega) rfl (fun ls' h' => k ls' (hl.of1 h2 h'))
    · cases hs
  · cases hs
theorem am_sto_okL {n : Nat} {i : Instr} {al : am_L} {st : List Value} {kv : Value} {q : am_L × List Value} (hs : am_sto i kv al st = some q) (h1 : am_okL n al) (h2 : am_okS n st) : am_okL n q.1 ∧ am_okS n q.2 := by
  have g1 : ∀ (j : Nat) (v : Value), am_okV n v → am_okL n (al.set j (some v)) := by
    intro j v hv w hw
    rcases List.mem_or_eq_of_mem_set hw with h | h
    · exact h1 w h
    · cases h; exact hv
  unfold am_sto at hs
  split at hs
  · obtain ⟨-, -, rfl⟩ := am_s1_some hs; exact ⟨g1 _ _ trivial, fun v hv => h2 v (List.mem_cons_of_mem _ hv)⟩
  · obtain ⟨-, -, rfl⟩ := am_s1_some hs; exact ⟨g1 _ _ trivial, fun v hv => h2 v (List.mem_cons_of_mem _ hv)⟩
  · obtain ⟨-, -, rfl⟩ := am_s1_some hs; exact ⟨g1 _ _ (h2 _ List.mem_cons_self), fun v hv => h2 v (List.mem_cons_of_mem _ hv)⟩
  · obtain ⟨-, -, rfl⟩ := am_s1_some hs; exact ⟨g1 _ _ (h2 _ List.mem_cons_self), fun v hv => h2 v (List.mem_cons_of_mem _ hv)⟩
  · obtain ⟨-, -, rfl⟩ := am_s2_some hs
    refine ⟨fun w hw => ?_, fun v hv => h2 v (List.mem_cons_of_mem _ hv)⟩
    rcases List.mem_or_eq_of_mem_set hw with h | h
    · exact g1 _ (.long _) trivial w h
    · cases h
  · obtain ⟨-, -, rfl⟩ := am_s2_some hs
    refine ⟨fun w hw => ?_, fun v hv => h2 v (List.mem_cons_of_mem _ hv)⟩
    rcases List.mem_or_eq_of_mem_set hw with h | h
    · exact g1 _ (.long _) trivial w h
    · cases h
  · split at hs
    · obtain ⟨-, -, rfl⟩ := am_s1_some hs; exact ⟨g1 _ _ trivial, h2⟩
    · cases hs
  · cases hs
end AMS
