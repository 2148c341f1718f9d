/-! switches -/
section AMU
variable {p : Program} {l : Launch} {e : Env} {R : Room} {s : State} {m : MethodId} {args : Array Value} {below : List Frame} {meth : Method} {c : Code} {Q : State → Prop} {A : Nat → Prop} {H0 : Heap} {G : am_G} {μ0 : Nat → Nat} {n0 : Nat} {M : am_M} {k n pc : Nat} {ls : am_L} {st : List Value} {h : am_H} {nx a b : Nat} {kv : Value} {x : Int32} {dflt lo hi : Int} {offs : Array Int} {ps : Array (Int × Int)}
theorem am_row_sw {M : am_M} {pc : Nat} {r : am_row} (hM : am_okM M = true) (hr : am_row? M.2.2.2.2.2 pc = some r) : decode M.1 pc = .ok (r.2.1, r.2.2.1 - r.1) := by
  obtain ⟨h1, h2⟩ := am_row_at hM hr
  simp only [am_okRow, Bool.and_eq_true] at h2
  rw [← h1]
  exact of_decide_eq_true h2.1.1
theorem aw_tabK (kk : Int32) (off : Int) (tgt : Nat) (hz : x = kk) (hr : am_row? M.2.2.2.2.2 pc = some (pc, .tableswitch dflt lo hi offs, nx, a, b, kv)) (hd : (decide (¬ kk.toInt < lo) && decide (¬ hi < kk.toInt) && decide (offs[(kk.toInt - lo).toNat]? = some off) && decide ((pc : Int) + off = (tgt : Int))) = true) (K : AW p l e R s m args below meth c Q A H0 G μ0 n0 M k n tgt ls st h) : AW p l e R s m args below meth c Q A H0 G μ0 n0 M k n pc ls (.int x :: st) h := by
  intro F hA μ H locs lsA hat
  obtain ⟨hx, hb, hml, hown, hts, hK, hM, hlk, hret, hini⟩ := id F
  obtain ⟨hP, hD, hS, hag, hl, okH, okL, okS, hlen, hn0, hRO⟩ := id hat
  have hdc := am_row_sw hM hr
  simp only [Bool.and_eq_true, decide_eq_true_eq] at hd
  obtain ⟨⟨⟨d1, d2⟩, d3⟩, d4⟩ := hd
  subst hz
  exact lv_tableIn hx hb hdc d1 d2 d3 d4 (K F hA μ H locs lsA ⟨hP, hD, hS, hag, hl, okH, okL, am_okS_tl okS, hlen, hn0, hRO⟩)
theorem aw_tabD (tgt : Nat) (hr : am_row? M.2.2.2.2.2 pc = some (pc, .tableswitch dflt lo hi offs, nx, a, b, kv)) (hd : x.toInt < lo ∨ hi < x.toInt) (ht : (pc : Int) + dflt = (tgt : Int)) (K : AW p l e R s m args below meth c Q A H0 G μ0 n0 M k n tgt ls st h) : AW p l e R s m args below meth c Q A H0 G μ0 n0 M k n pc ls (.int x :: st) h := by
  intro F hA μ H locs lsA hat
  obtain ⟨hx, hb, hml, hown, hts, hK, hM, hlk, hret, hini⟩ := id F
  obtain ⟨hP, hD, hS, hag, hl, okH, okL, okS, hlen, hn0, hRO⟩ := id hat
  have hdc := am_row_sw hM hr
  exact lv_tableOut hx hb hdc hd ht (K F hA μ H locs lsA ⟨hP, hD, hS, hag, hl, okH, okL, am_okS_tl okS, hlen, hn0, hRO⟩)
theorem aw_lookK (kk : Int32) (off : Int) (tgt : Nat) (hz : x = kk) (hr : am_row? M.2.2.2.2.2 pc = some (pc, .lookupswitch dflt ps, nx, a, b, kv)) (hd : ((ps.toList.zip (ps.toList.drop 1)).all (fun (a, next) => a.1 < next.1) && decide (Op.lookupswitch.offset ps.toList dflt kk.toInt = off) && decide ((pc : Int) + off = (tgt : Int))) = true) (K : AW p l e R s m args below meth c Q A H0 G μ0 n0 M k n tgt ls st h) : AW p l e R s m args below meth c Q A H0 G μ0 n0 M k n pc ls (.int x :: st) h := by
  intro F hA μ H locs lsA hat
  obtain ⟨hx, hb, hml, hown, hts, hK, hM, hlk, hret, hini⟩ := id F
  obtain ⟨hP, hD, hS, hag, hl, okH, okL, okS, hlen, hn0, hRO⟩ := id hat
  have hdc := am_row_sw hM hr
  rw [Bool.and_eq_true, Bool.and_eq_true] at hd
  obtain ⟨⟨d1, d2⟩, d3⟩ := hd
  subst hz
  exact lv_lookup hx hb hdc d1 (of_decide_eq_true d2) (of_decide_eq_true d3) (K F hA μ H locs lsA ⟨hP, hD, hS, hag, hl, okH, okL, am_okS_tl okS, hlen, hn0, hRO⟩)
theorem aw_lookD (tgt : Nat) (hr : am_row? M.2.2.2.2.2 pc = some (pc, .lookupswitch dflt ps, nx, a, b, kv)) (hp : (ps.toList.zip (ps.toList.drop 1)).all (fun (a, next) => a.1 < next.1) = true) (ho : Op.lookupswitch.offset ps.toList dflt x.toInt = dflt) (ht : (pc : Int) + dflt = (tgt : Int)) (K : AW p l e R s m args below meth c Q A H0 G μ0 n0 M k n tgt ls st h) : AW p l e R s m args below meth c Q A H0 G μ0 n0 M k n pc ls (.int x :: st) h := by
  intro F hA μ H locs lsA hat
  obtain ⟨hx, hb, hml, hown, hts, hK, hM, hlk, hret, hini⟩ := id F
  obtain ⟨hP, hD, hS, hag, hl, okH, okL, okS, hlen, hn0, hRO⟩ := id hat
  have hdc := am_row_sw hM hr
  exact lv_lookup hx hb hdc hp ho ht (K F hA μ H locs lsA ⟨hP, hD, hS, hag, hl, okH, okL, am_okS_tl okS, hlen, hn0, hRO⟩)
end AMU
