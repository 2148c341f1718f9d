/-! Store: makeRoom -/
def st_room (x : Nat) : Nat := if x ≤ 128 then 128 else if x ≤ 256 then 256 else if x ≤ 512 then 512 else if x ≤ 1024 then 1024 else if x ≤ 2048 then 2048 else if x ≤ 4096 then 4096 else if x ≤ 8192 then 8192 else 16384
theorem st_room_ge {x : Nat} (h : x ≤ 16384) : x ≤ st_room x := by
  unfold st_room
  repeat' split
  all_goals omega
theorem st_room_pow (x : Nat) : ∃ e, 2 * st_room x = 2 ^ e ∧ e ≤ 15 := by
  unfold st_room
  repeat' split
  · exact ⟨8, by omega⟩
  · exact ⟨9, by omega⟩
  · exact ⟨10, by omega⟩
  · exact ⟨11, by omega⟩
  · exact ⟨12, by omega⟩
  · exact ⟨13, by omega⟩
  · exact ⟨14, by omega⟩
  · exact ⟨15, by omega⟩
theorem st_room_le (x : Nat) : st_room x ≤ 16384 := by
  unfold st_room
  repeat' split
  all_goals omega
theorem sr_cases {k : Nat} (h : k ≤ 7) : k = 0 ∨ k = 1 ∨ k = 2 ∨ k = 3 ∨ k = 4 ∨ k = 5 ∨ k = 6 ∨ k = 7 := by omega
theorem sr_bd {k : Nat} (h : k ≤ 7) : 128 * 2 ^ k ≤ 16384 := by
  rcases sr_cases h with rfl | rfl | rfl | rfl | rfl | rfl | rfl | rfl <;> omega
theorem sr_dbl {k : Nat} : nI (128 * 2 ^ k) * 2 = nI (128 * 2 ^ (k + 1)) := by
  rw [show (2 : Int32) = nI 2 from rfl, pk_mul, Nat.pow_succ, Nat.mul_assoc]
theorem sr_end {k n q : Nat} (hI : k ≤ 7 ∧ (k = 0 ∨ 64 * 2 ^ k < n + q)) (hq : n + q ≤ 16384) (h : n + q ≤ 128 * 2 ^ k ∨ 16384 ≤ 128 * 2 ^ k) : 128 * 2 ^ k = st_room (n + q) := by
  obtain ⟨h1, h2⟩ := hI
  generalize n + q = x at *
  unfold st_room
  rcases sr_cases h1 with rfl | rfl | rfl | rfl | rfl | rfl | rfl | rfl
  all_goals
    repeat' split
    all_goals omega
theorem sr_a {k n q : Nat} (h7 : k ≤ 7) (hn : n ≤ 16384) (hq : n + q ≤ 16384) (h : nI n + nI q ≤ nI (128 * 2 ^ k)) : n + q ≤ 128 * 2 ^ k := by
  have := sr_bd h7
  rw [nI_add] at h
  exact (nI_leI (by omega) (by omega)).mp h
theorem sr_b {k : Nat} (h7 : k ≤ 7) (h : 16384 ≤ nI (128 * 2 ^ k)) : 16384 ≤ 128 * 2 ^ k := by
  have := sr_bd h7
  exact (nI_leI (a := 16384) (by omega) (by omega)).mp h
theorem sr_lt {k : Nat} (hk : k ≤ 7) (h : ¬ 16384 ≤ nI (128 * 2 ^ k)) : k + 1 ≤ 7 := by
  rcases Nat.lt_or_ge k 7 with q | q
  · omega
  · have : k = 7 := by omega
    subst this
    exact absurd (by decide) h
theorem sr_lo {k n q : Nat} (h7 : k ≤ 7) (hn : n ≤ 16384) (hq : n + q ≤ 16384) (h : ¬ nI n + nI q ≤ nI (128 * 2 ^ k)) : 64 * 2 ^ (k + 1) < n + q := by
  have := sr_bd h7
  rw [nI_add] at h
  have : ¬ n + q ≤ 128 * 2 ^ k := fun z => h (nI_le z (by omega))
  rw [Nat.pow_succ]
  omega
theorem sr_c {cap x : Nat} (h : nI (st_room x) ≤ nI cap) (hc : cap ≤ 16384) : st_room x ≤ cap := (nI_leI (by have := st_room_le x; omega) (by omega)).mp h
/-- the marks: none above the latest -/
def st_mk (cap : Nat) (mk : Nat → Int32) (mark : Int32) (Q : Nat) : Prop := mark = nI Q ∧ ∀ i, i < cap → ∃ z, z ≤ Q ∧ mk i = nI z
theorem st_mk.grow {cap m Q : Nat} {mk : Nat → Int32} {mark : Int32} (h : st_mk cap mk mark Q) : st_mk m (va_cpy mk (fun _ => 0) 0 0 cap) mark Q := by
  refine ⟨h.1, fun i hi => ?_⟩
  rcases Nat.lt_or_ge i cap with q | q
  · obtain ⟨z, h1, h2⟩ := h.2 i q
    refine ⟨z, h1, ?_⟩
    rw [pk_cpy_in (by omega) (by omega)]
    rw [← h2]
    congr 1
    omega
  · exact ⟨0, by omega, by rw [pk_cpy_out (by omega)]; rfl⟩
theorem gw_i {cap n : Nat} (f : Nat → Int32) (hn : n ≤ cap) {j : Nat} (hj : j < n) : va_cpy f (fun _ => 0) 0 0 cap j = f j := by
  rw [pk_cpy_in (by omega) (by omega)]
  congr 1
  omega
theorem st_ok.grow {cap n e0 m e1 : Nat} {keys : Nat → Int64} {dp ln sl sl2 : Nat → Int32} {t : Nat → Tr} (h : st_ok cap n e0 keys dp ln sl t) (h2 : st_tb m n e1 (va_cpy keys (fun _ => 0) 0 0 cap) sl2) : st_ok m n e1 (va_cpy keys (fun _ => 0) 0 0 cap) (va_cpy dp (fun _ => 0) 0 0 cap) (va_cpy ln (fun _ => 0) 0 0 cap) sl2 t := by
  have hn := h.1.2.1
  refine ⟨h2, fun i hi => ?_, h.2.2⟩
  unfold st_nd
  rw [gw_key keys hn hi, gw_i dp hn hi, gw_i ln hn hi]
  exact h.2.1 i hi
set_option maxHeartbeats 2000000 in
set_option maxRecDepth 100000 in
theorem c_St_makeRoom (l : Launch) (cap n : Nat) (keys : Nat → Int64) (dp ln mk pt sl : Nat → Int32) (mark : Int32) (e0 : Nat) (t : Nat → Tr) (h : st_ok cap n e0 keys dp ln sl t) (q Q : Nat) (hq : n + q ≤ 16384) (hmk : st_mk cap mk mark Q) : Con l y_St_makeRoom M_St_makeRoom 3 105 [.ref 0, .int (nI q)] (stH cap keys dp ln mk pt sl (nI n) mark) 1 0 (if cap < st_room (n + q) then 6 else 0) (if cap < st_room (n + q) then 7 * st_room (n + q) else 0) (fun r h' => r = some (.int 1) ∧ ∃ cap2 e2 keys2 dp2 ln2 mk2 pt2 sl2, st_ok cap2 n e2 keys2 dp2 ln2 sl2 t ∧ n + q ≤ cap2 ∧ cap2 = max cap (st_room (n + q)) ∧ st_mk cap2 mk2 mark Q ∧ h' = stH cap2 keys2 dp2 ln2 mk2 pt2 sl2 (nI n) mark) := by
  refine Con.ent ok_St_makeRoom (by decide +kernel) rfl ?_
  intro pA eA sA mA argsA belowA methA cA GA μA
  have hc := h.1.cap
  have hcn : n ≤ 16384 := by have := h.1.2.1; omega
  refine aw_go 1 1 [some (.ref 0), some (.int (nI q)), none] [.int (nI q)] (stH cap keys dp ln mk pt sl (nI n) mark) rfl ?_
  refine aw_if_lt rfl (fun h1 => absurd h1 (nI_pos (by omega))) (fun h1 => ?_)
  refine aw_go 5 13 [some (.ref 0), some (.int (nI q)), none] [.int (16384 - nI n), .int (nI q)] (stH cap keys dp ln mk pt sl (nI n) mark) rfl ?_
  refine aw_cmp_le rfl (fun h13 => ?_) (fun h13 => absurd (by rw [show (16384 : Int32) - nI n = nI (16384 - n) from pk_sub (a := 16384) (b := n) hcn]; exact nI_le (by omega) (by omega)) h13)
  refine aw_go 2 22 [some (.ref 0), some (.int (nI q)), some (.int (nI (128 * 2 ^ 0)))] [] (stH cap keys dp ln mk pt sl (nI n) mark) rfl ?_
  refine aw_loop (σ := Nat) (fun k => k ≤ 7 ∧ (k = 0 ∨ 64 * 2 ^ k < n + q)) (fun k => 7 - k) (fun k => [some (.ref 0), some (.int (nI q)), some (.int (nI (128 * 2 ^ k)))]) (fun _ => []) (fun _ => (stH cap keys dp ln mk pt sl (nI n) mark)) ?_ 0 ⟨by omega, Or.inl rfl⟩
  intro k hI ih
  refine aw_go 5 29 [some (.ref 0), some (.int (nI q)), some (.int (nI (128 * 2 ^ k)))] [.int ((nI n) + (nI q)), .int (nI (128 * 2 ^ k))] (stH cap keys dp ln mk pt sl (nI n) mark) rfl ?_
  refine aw_cmp_ge rfl (fun h29 => ?_) (fun h29 => ?_)
  · have hrm : 128 * 2 ^ k = st_room (n + q) := sr_end hI hq (by first | exact Or.inl (sr_a hI.1 hcn hq h29) | exact Or.inr (sr_b hI.1 h36))
    rw [hrm]
    refine aw_go 4 52 [some (.ref 0), some (.int (nI q)), some (.int (nI (st_room (n + q))))] [.int (nI cap), .int (nI (st_room (n + q)))] (stH cap keys dp ln mk pt sl (nI n) mark) rfl ?_
    refine aw_cmp_le rfl (fun h52 => ?_) (fun h52 => ?_)
    · refine aw_go 1 61 [some (.ref 0), some (.int (nI q)), some (.int (nI (st_room (n + q))))] [.int 1] (stH cap keys dp ln mk pt sl (nI n) mark) rfl ?_
      exact aw_iret rfl (by decide) rfl ⟨rfl, cap, e0, keys, dp, ln, mk, pt, sl, h, by have := sr_c h52 hc.2; have := st_room_ge hq; omega, by have := sr_c h52 hc.2; omega, hmk, rfl⟩ rfl (by first | exact Nat.zero_le _ | (rw [if_pos hgt]; omega)) (by first | exact Nat.zero_le _ | (rw [if_pos hgt]; omega)) -- [.int 1] (stH cap keys dp ln mk pt sl (nI n) mark)
    · have hgt : cap < st_room (n + q) := Nat.not_le.mp fun z => h52 (nI_le z (by omega))
      obtain ⟨e1, he1⟩ := st_room_pow (n + q)
      refine aw_go 2 57 [some (.ref 0), some (.int (nI q)), some (.int (nI (st_room (n + q))))] [.int (nI (st_room (n + q))), .ref 0] (stH cap keys dp ln mk pt sl (nI n) mark) rfl ?_
      refine aw_cV [0, 1, 2, 3, 4, 5, 6] (c_St_growTo l cap n keys dp ln mk pt sl mark e0 e1 (st_room (n + q)) h.1 ⟨hgt, he1⟩) rfl cw_St_55 rfl rfl rfl rfl rfl rfl (by show 0 + 6 ≤ if cap < st_room (n + q) then 6 else 0; rw [if_pos hgt]; omega) (by show 0 + 7 * st_room (n + q) ≤ if cap < st_room (n + q) then 7 * st_room (n + q) else 0; rw [if_pos hgt]; omega) (fun r h' hp => ?_)
      obtain ⟨rfl, sl2, htb, rfl⟩ := hp
      refine aw_go 1 61 [some (.ref 0), some (.int (nI q)), some (.int (nI (st_room (n + q))))] [.int 1] (stH (st_room (n + q)) (va_cpy keys (fun _ => 0) 0 0 cap) (va_cpy dp (fun _ => 0) 0 0 cap) (va_cpy ln (fun _ => 0) 0 0 cap) (va_cpy mk (fun _ => 0) 0 0 cap) (fun _ => 0) sl2 (nI n) mark) rfl ?_
      exact aw_iret rfl (by decide) rfl ⟨rfl, st_room (n + q), e1, _, _, _, _, _, sl2, h.grow htb, st_room_ge hq, by omega, hmk.grow, rfl⟩ rfl (by first | exact Nat.zero_le _ | (rw [if_pos hgt]; omega)) (by first | exact Nat.zero_le _ | (rw [if_pos hgt]; omega)) -- [.int 1] (stH (st_room (n + q)) (va_cpy keys (fun _ => 0) 0 0 cap) (va_cpy dp (fun _ => 0) 0 0 cap) (va_cpy ln (fun _ => 0) 0 0 cap) (va_cpy mk (fun _ => 0) 0 0 cap) (fun _ => 0) sl2 (nI n) mark)
  · refine aw_go 2 36 [some (.ref 0), some (.int (nI q)), some (.int (nI (128 * 2 ^ k)))] [.int 16384, .int (nI (128 * 2 ^ k))] (stH cap keys dp ln mk pt sl (nI n) mark) rfl ?_
    refine aw_cmp_ge rfl (fun h36 => ?_) (fun h36 => ?_)
    · have hrm : 128 * 2 ^ k = st_room (n + q) := sr_end hI hq (by first | exact Or.inl (sr_a hI.1 hcn hq h29) | exact Or.inr (sr_b hI.1 h36))
      rw [hrm]
      refine aw_go 4 52 [some (.ref 0), some (.int (nI q)), some (.int (nI (st_room (n + q))))] [.int (nI cap), .int (nI (st_room (n + q)))] (stH cap keys dp ln mk pt sl (nI n) mark) rfl ?_
      refine aw_cmp_le rfl (fun h52 => ?_) (fun h52 => ?_)
      · refine aw_go 1 61 [some (.ref 0), some (.int (nI q)), some (.int (nI (st_room (n + q))))] [.int 1] (stH cap keys dp ln mk pt sl (nI n) mark) rfl ?_
        exact aw_iret rfl (by decide) rfl ⟨rfl, cap, e0, keys, dp, ln, mk, pt, sl, h, by have := sr_c h52 hc.2; have := st_room_ge hq; omega, by have := sr_c h52 hc.2; omega, hmk, rfl⟩ rfl (by first | exact Nat.zero_le _ | (rw [if_pos hgt]; omega)) (by first | exact Nat.zero_le _ | (rw [if_pos hgt]; omega)) -- [.int 1] (stH cap keys dp ln mk pt sl (nI n) mark)
      · have hgt : cap < st_room (n + q) := Nat.not_le.mp fun z => h52 (nI_le z (by omega))
        obtain ⟨e1, he1⟩ := st_room_pow (n + q)
        refine aw_go 2 57 [some (.ref 0), some (.int (nI q)), some (.int (nI (st_room (n + q))))] [.int (nI (st_room (n + q))), .ref 0] (stH cap keys dp ln mk pt sl (nI n) mark) rfl ?_
        refine aw_cV [0, 1, 2, 3, 4, 5, 6] (c_St_growTo l cap n keys dp ln mk pt sl mark e0 e1 (st_room (n + q)) h.1 ⟨hgt, he1⟩) rfl cw_St_55 rfl rfl rfl rfl rfl rfl (by show 0 + 6 ≤ if cap < st_room (n + q) then 6 else 0; rw [if_pos hgt]; omega) (by show 0 + 7 * st_room (n + q) ≤ if cap < st_room (n + q) then 7 * st_room (n + q) else 0; rw [if_pos hgt]; omega) (fun r h' hp => ?_)
        obtain ⟨rfl, sl2, htb, rfl⟩ := hp
        refine aw_go 1 61 [some (.ref 0), some (.int (nI q)), some (.int (nI (st_room (n + q))))] [.int 1] (stH (st_room (n + q)) (va_cpy keys (fun _ => 0) 0 0 cap) (va_cpy dp (fun _ => 0) 0 0 cap) (va_cpy ln (fun _ => 0) 0 0 cap) (va_cpy mk (fun _ => 0) 0 0 cap) (fun _ => 0) sl2 (nI n) mark) rfl ?_
        exact aw_iret rfl (by decide) rfl ⟨rfl, st_room (n + q), e1, _, _, _, _, _, sl2, h.grow htb, st_room_ge hq, by omega, hmk.grow, rfl⟩ rfl (by first | exact Nat.zero_le _ | (rw [if_pos hgt]; omega)) (by first | exact Nat.zero_le _ | (rw [if_pos hgt]; omega)) -- [.int 1] (stH (st_room (n + q)) (va_cpy keys (fun _ => 0) 0 0 cap) (va_cpy dp (fun _ => 0) 0 0 cap) (va_cpy ln (fun _ => 0) 0 0 cap) (va_cpy mk (fun _ => 0) 0 0 cap) (fun _ => 0) sl2 (nI n) mark)
    · refine aw_go 5 22 [some (.ref 0), some (.int (nI q)), some (.int ((nI (128 * 2 ^ k)) * 2))] [] (stH cap keys dp ln mk pt sl (nI n) mark) rfl ?_
      -- LOOP 22: [some (.ref 0), some (.int (nI q)), some (.int ((nI (128 * 2 ^ k)) * 2))] [] (stH cap keys dp ln mk pt sl (nI n) mark)
      exact aw_eq (by rw [sr_dbl]) rfl rfl (ih (k + 1) ⟨sr_lt hI.1 h36, Or.inr (sr_lo hI.1 hcn hq h29)⟩ (by have := sr_lt hI.1 h36; omega))
