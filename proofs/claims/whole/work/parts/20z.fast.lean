/-! words among the tables', by their places -/
def am_mem (i : Nat) (w : Jvm.Cond) : Bool := (match lw_tbl[i]? with
  | some x => decide (x = w)
  | none => false) && am_goodW w
theorem am_mem_in {i : Nat} {w : Jvm.Cond} (h : am_mem i w = true) : w ∈ am_tb := by
  unfold am_mem at h
  rw [Bool.and_eq_true] at h
  obtain ⟨h1, h2⟩ := h
  split at h1
  · rename_i x hx
    have := of_decide_eq_true h1
    subst this
    exact List.mem_filter.mpr ⟨List.mem_of_getElem? hx, h2⟩
  · cases h1
def am_okFf (own : String) (idx ci k hint : Nat) : Bool := match vwCl[ci]? with
  | some (_, T, N) => Nat.blt k N && am_mem hint (Jvm.Cond.fieldLink own idx (T k).1 (T k).2.1 (T k).2.2.1)
  | none => false
theorem am_okFf_ok {own : String} {idx ci k hint : Nat} (h : am_okFf own idx ci k hint = true) : am_okF own idx ci k = true := by
  unfold am_okFf at h
  unfold am_okF
  split at h
  · rename_i T N hc
    rw [hc]
    rw [Bool.and_eq_true] at h
    simp only [Bool.and_eq_true]
    exact ⟨h.1, decide_eq_true (am_mem_in h.2)⟩
  · cases h
def am_okKf (own : String) (ini : Bool) (hint : Nat) (r : am_row) : Bool := match r with
  | (_, .getfield idx, _, a, b, _) => Nat.beq a 9999 || am_okFf own idx a b hint
  | (_, .putfield idx, _, a, b, kv) => am_okFf own idx a b hint && am_okP own ini a b kv
  | (_, .ldc idx, _, _, _, .int v) => am_mem hint (Jvm.Cond.constant own idx v)
  | (_, .ldc2_w idx, _, _, _, .long v) => am_mem hint (Jvm.Cond.constantLong own idx v)
  | r => am_okK own ini r
theorem am_okKf_ok {own : String} {ini : Bool} {hint : Nat} {r : am_row} (h : am_okKf own ini hint r = true) : am_okK own ini r = true := by
  unfold am_okKf at h
  split at h
  · rw [Bool.or_eq_true] at h
    simp only [am_okK, Bool.or_eq_true]
    exact h.imp id am_okFf_ok
  · rw [Bool.and_eq_true] at h
    simp only [am_okK, Bool.and_eq_true]
    exact ⟨am_okFf_ok h.1, h.2⟩
  · simp only [am_okK]
    exact decide_eq_true (am_mem_in h)
  · simp only [am_okK]
    exact decide_eq_true (am_mem_in h)
  · exact h
def am_okMf (M : am_M) (hs : List Nat) : Bool := Nat.beq hs.length M.2.2.2.2.2.length && (M.2.2.2.2.2.zip hs).all (fun q => decide (decode M.1 q.1.1 = .ok (q.1.2.1, q.1.2.2.1 - q.1.1)) && (am_sw q.1.2.1 || Nat.beq q.1.2.2.1 (q.1.1 + am_len q.1.2.1)) && am_okKf M.2.1 M.2.2.2.2.1 q.2 q.1)
theorem am_okMf_ok {M : am_M} {hs : List Nat} (h : am_okMf M hs = true) : am_okM M = true := by
  unfold am_okMf at h
  rw [Bool.and_eq_true] at h
  obtain ⟨h1, h2⟩ := h
  have hl := Nat.eq_of_beq_eq_true h1
  unfold am_okM
  rw [List.all_eq_true]
  intro r hr
  obtain ⟨i, hi⟩ := List.getElem?_of_mem hr
  have hlt := (List.getElem?_eq_some_iff.mp hi).1
  have hz : (M.2.2.2.2.2.zip hs)[i]? = some (r, hs[i]) := by
    rw [List.getElem?_zip_eq_some]
    exact ⟨hi, List.getElem?_eq_getElem (by omega)⟩
  have h3 := List.all_eq_true.mp h2 _ (List.mem_of_getElem? hz)
  simp only [Bool.and_eq_true] at h3
  unfold am_okRow
  simp only [Bool.and_eq_true]
  exact ⟨h3.1, am_okKf_ok h3.2⟩
def am_allf (ws : List Jvm.Cond) (hs : List Nat) : Bool := Nat.beq hs.length ws.length && (ws.zip hs).all (fun q => am_mem q.2 q.1)
theorem am_allf_ok {ws : List Jvm.Cond} {hs : List Nat} (h : am_allf ws hs = true) : ws.all (fun w => decide (w ∈ am_tb)) = true := by
  unfold am_allf at h
  rw [Bool.and_eq_true] at h
  obtain ⟨h1, h2⟩ := h
  have hl := Nat.eq_of_beq_eq_true h1
  rw [List.all_eq_true]
  intro w hw
  obtain ⟨i, hi⟩ := List.getElem?_of_mem hw
  have hlt := (List.getElem?_eq_some_iff.mp hi).1
  have hz : (ws.zip hs)[i]? = some (w, hs[i]) := by
    rw [List.getElem?_zip_eq_some]
    exact ⟨hi, List.getElem?_eq_getElem (by omega)⟩
  exact decide_eq_true (am_mem_in (List.all_eq_true.mp h2 _ (List.mem_of_getElem? hz)))
theorem cwV_f {own : String} {idx : Nat} {y : MethodName} {Mc : am_M} {n : Nat} (hs : List Nat) (h : (am_par y n && am_allf (wsV own idx y.cls y [Jvm.Cond.code y Mc.1 Mc.2.2.1 Mc.2.2.2.1]) hs) = true) : am_cwV own idx y Mc n = true := by
  rw [Bool.and_eq_true] at h
  unfold am_cwV
  rw [Bool.and_eq_true]
  exact ⟨h.1, am_allf_ok h.2⟩
theorem cwS_f {own : String} {idx : Nat} {y : MethodName} {Mc : am_M} {n : Nat} (hs : List Nat) (h : (am_par y n && am_allf (va_wsS own idx y [Jvm.Cond.code y Mc.1 Mc.2.2.1 Mc.2.2.2.1]) hs) = true) : am_cwS own idx y Mc n = true := by
  rw [Bool.and_eq_true] at h
  unfold am_cwS
  rw [Bool.and_eq_true]
  exact ⟨h.1, am_allf_ok h.2⟩
theorem cwI_f {own : String} {idx : Nat} {y : MethodName} {Mc : am_M} {n : Nat} (hs : List Nat) (h : (am_par y n && decide (y.name = "<init>") && decide (Mc.2.2.2.1 = none) && am_allf ([.initialized y.cls, .methodLink own idx y, .instanceMethod y, .code y Mc.1 Mc.2.2.1 none] : List Jvm.Cond) hs) = true) : am_cwI own idx y Mc n = true := by
  simp only [Bool.and_eq_true] at h
  unfold am_cwI
  simp only [Bool.and_eq_true]
  exact ⟨h.1, am_allf_ok h.2⟩
