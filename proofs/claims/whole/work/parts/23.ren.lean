/-! the cells told by other numbers: some are forgotten -/
def am_okLb (n : Nat) : Option Value → Bool
  | some v => am_okVb n v
  | none => true
def am_ck2 (is : List Nat) (h2 : am_H) (n0 : Nat) (ls2 : am_L) (st2 : List Value) : Bool := am_ndb is && Nat.blt is.length 1000000 && h2.all (am_okCb h2.length) && ls2.all (am_okLb h2.length) && st2.all (am_okVb h2.length) && Nat.ble n0 h2.length && (List.range n0).all (fun j => match is[j]? with
  | some i => Nat.beq i j
  | none => false)
set_option maxHeartbeats 1000000 in
theorem aw_ren {p : Program} {l : Launch} {e : Env} {R : Room} {s : State} {m : MethodId} {args : Array Value} {below : List Frame} {meth : Method} {c : Code} {Q : State → Prop} {A : Nat → Prop} {H0 : Heap} {G : am_G} {μ0 : Nat → Nat} {n0 : Nat} {M : am_M} {k n pc : Nat} {ls : am_L} {st : List Value} {h : am_H} (is : List Nat) (ls2 : am_L) (st2 : List Value) (h2 : am_H) (e1 : ls = ls2.map (Option.map (am_ren is))) (e2 : st = st2.map (am_ren is)) (hat0 : is.map (fun i => h[i]?) = h2.map (fun d => some (am_renC is d))) (hck : am_ck2 is h2 n0 ls2 st2 = true) (K : AW p l e R s m args below meth c Q A H0 G μ0 n0 M k n pc ls2 st2 h2) : AW p l e R s m args below meth c Q A H0 G μ0 n0 M k n pc ls st h := by
  simp only [am_ck2, Bool.and_eq_true] at hck
  obtain ⟨⟨⟨⟨⟨⟨g1, g2⟩, g3⟩, g4⟩, g5⟩, g6⟩, g7⟩ := hck
  have hil := Nat.le_of_ble_eq_true g2
  intro F hA μ H locs lsA hat
  obtain ⟨hP, hD, hS, hag, hl, okH, okL, okS, hlen, hn0, hRO⟩ := id hat
  have hcl : is.length = h2.length := by
    have := congrArg List.length hat0
    simpa using this
  have hin := am_hin (G := G) (μ := μ) hil hat0
  have hfar : ∀ i, 1000000 ≤ i → am_in is μ i = μ i := by
    intro i hi
    unfold am_in
    have h1 : Nat.blt i 1000000 = false := by
      cases hq : Nat.blt i 1000000 with
      | false => rfl
      | true => have := Nat.le_of_ble_eq_true hq; omega
    rw [h1]
    rfl
  have := K F hA (am_in is μ) H locs lsA ⟨fun j q hq => by
      obtain ⟨i, -, hi⟩ := hin j q hq
      exact hP i q hi, ⟨fun i j x y hx hy hxy => by
      obtain ⟨i1, a1, b1⟩ := hin i x hx
      obtain ⟨i2, a2, b2⟩ := hin j y hy
      have h9 := hD.1 i1 i2 _ _ b1 b2 hxy
      subst h9
      exact Option.some.inj ((am_pos_at g1 a1).symm.trans (am_pos_at g1 a2)), fun j q hq => by
      obtain ⟨i, -, hi⟩ := hin j q hq
      exact hD.2 i q hi⟩, hS, fun k0 hk0 => by
      rw [← hag k0 hk0]
      rcases hk0 with hk0 | hk0
      · have h1 := List.all_eq_true.mp g7 k0 (List.mem_range.mpr hk0)
        unfold am_in
        rw [show Nat.blt k0 1000000 = true from Nat.ble_eq_true_of_le (by omega)]
        simp only [cond]
        cases hi : is[k0]? with
        | none => rw [hi] at h1; cases h1
        | some i =>
          rw [hi] at h1
          rw [List.getD_eq_getElem?_getD, hi]
          simp only [Option.getD_some]
          rw [Nat.eq_of_beq_eq_true h1]
      · exact hfar k0 hk0, ⟨hl.1, hl.2.1, by rw [← hl.2.2.1, e1, List.length_map], fun i v hv => by
      rw [am_ren_v]
      refine hl.2.2.2 i _ ?_
      rw [e1, List.getElem?_map, hv]
      rfl⟩, am_okHb_ok g3, fun v hv => am_okVb_ok (List.all_eq_true.mp g4 _ hv), fun v hv => am_okVb_ok (List.all_eq_true.mp g5 v hv), by omega, Nat.le_of_ble_eq_true g6, hRO.ag hfar⟩
  rw [e2, ← am_ren_map]
  exact this
