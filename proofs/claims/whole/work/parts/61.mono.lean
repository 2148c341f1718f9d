/-! a contract that says less -/
theorem am_Post.mono {G : am_G} {μ : Nat → Nat} {h : am_H} {n0 gl sz : Nat} {P P' : Option Value → am_H → Prop} (hp : ∀ r h', P r h' → P' r h') {a : Array Value} {st t : State} {oc : Outcome} (hq : am_Post G μ h n0 gl sz P a st oc t) : am_Post G μ h n0 gl sz P' a st oc t := by
  obtain ⟨⟨r, h', ν, a1, a2, a3⟩, b⟩ := hq
  exact ⟨⟨r, h', ν, a1, hp r h' a2, a3⟩, b⟩
theorem Con.mono {l : Launch} {y : MethodName} {M : am_M} {fr lo : Nat} {av : List Value} {h : am_H} {n0 gl mc ms : Nat} {P P' : Option Value → am_H → Prop} (hC : Con l y M fr lo av h n0 gl mc ms P) (hp : ∀ r h', P r h' → P' r h') : Con l y M fr lo av h n0 gl mc ms P' := by
  intro G μ sz
  exact MetFree.mono (hC G μ sz) (fun _ _ q => q) (fun _ _ _ _ _ q => q) (fun _ _ _ _ _ q => ⟨am_Post.mono hp q.1, q.2⟩)
