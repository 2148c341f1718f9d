/-! loops; locals that are forgotten -/
def am_mask : List Bool → am_L → am_L
  | true :: bs, v :: ls => v :: am_mask bs ls
  | false :: bs, _ :: ls => none :: am_mask bs ls
  | [], ls => ls
  | _ :: _, [] => []
theorem am_mask_len : ∀ (bs : List Bool) (ls : am_L), (am_mask bs ls).length = ls.length := by
  intro bs
  induction bs with
  | nil => intro ls; simp [am_mask]
  | cons b bs ih =>
    intro ls
    cases ls with
    | nil => cases b <;> rfl
    | cons v ls => cases b <;> simp [am_mask, ih]
theorem am_mask_get : ∀ (bs : List Bool) (ls : am_L) (i : Nat) (v : Value), (am_mask bs ls)[i]? = some (some v) → ls[i]? = some (some v) := by
  intro bs
  induction bs with
  | nil => intro ls i v h; simpa [am_mask] using h
  | cons b bs ih =>
    intro ls i v h
    cases ls with
    | nil => cases b <;> simp [am_mask] at h
    | cons w ls =>
      cases i with
      | zero => cases b <;> simp [am_mask] at h ⊢; exact h
      | succ i => cases b <;> (simp only [am_mask, List.getElem?_cons_succ] at h ⊢; exact ih ls i v h)
section AML
variable {p : Program} {l : Launch} {e : Env} {R : Room} {s : State} {m : MethodId} {args : Array Value} {below : List Frame} {meth : Method} {c : Code} {Q : State → Prop} {A : Nat → Prop} {H0 : Heap} {G : am_G} {μ0 : Nat → Nat} {n0 : Nat} {M : am_M} {k n pc : Nat} {ls : am_L} {st : List Value} {h : am_H}
theorem aw_mask (bs : List Bool) (K : AW p l e R s m args below meth c Q A H0 G μ0 n0 M k n pc (am_mask bs ls) st h) : AW p l e R s m args below meth c Q A H0 G μ0 n0 M k n pc ls st h := by
  intro F hA μ H locs lsA hat
  obtain ⟨hP, hD, hS, hag, hl, okH, okL, okS, hlen, hn0, hRO⟩ := id hat
  refine K F hA μ H locs lsA ⟨hP, hD, hS, hag, ⟨hl.1, hl.2.1, by rw [am_mask_len]; exact hl.2.2.1, fun i v hv => hl.2.2.2 i v (am_mask_get bs ls i v hv)⟩, okH, fun v hv => ?_, okS, hlen, hn0, hRO⟩
  obtain ⟨i, hi⟩ := List.getElem?_of_mem hv
  exact okL v (List.mem_of_getElem? (am_mask_get bs ls i v hi))
/-- a loop: a measure falls -/
theorem aw_loop {σ : Type} (I : σ → Prop) (ms : σ → Nat) (L : σ → am_L) (S : σ → List Value) (Hh : σ → am_H) (step : ∀ x, I x → (∀ y, I y → ms y < ms x → AW p l e R s m args below meth c Q A H0 G μ0 n0 M k n pc (L y) (S y) (Hh y)) → AW p l e R s m args below meth c Q A H0 G μ0 n0 M k n pc (L x) (S x) (Hh x)) (x : σ) (hx : I x) : AW p l e R s m args below meth c Q A H0 G μ0 n0 M k n pc (L x) (S x) (Hh x) := by
  have key : ∀ (d : Nat) (x : σ), ms x < d → I x → AW p l e R s m args below meth c Q A H0 G μ0 n0 M k n pc (L x) (S x) (Hh x) := by
    intro d
    induction d with
    | zero => intro x h; omega
    | succ d ih => intro x h hx; exact step x hx (fun y hy hm => ih y (by omega) hy)
  exact key _ x (Nat.lt_succ_self _) hx
end AML
