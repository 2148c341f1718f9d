/-! the table of keys -/
def st_tb (cap n e0 : Nat) (keys : Nat → Int64) (sl : Nat → Int32) : Prop := (2 * cap = 2 ^ e0 ∧ e0 ≤ 15) ∧ n ≤ cap ∧ (∀ s, s < 2 * cap → sl s = -1 ∨ ∃ j, j < n ∧ sl s = nI j) ∧ (∀ j, j < n → ∃ d, d < 2 * cap ∧ sl (hs cap (keys j) d) = nI j ∧ ∀ q, q < d → ∃ i, i < n ∧ sl (hs cap (keys j) q) = nI i) ∧ (∀ s t j, s < 2 * cap → t < 2 * cap → j < n → sl s = nI j → sl t = nI j → s = t) ∧ (∀ i j, i < n → j < n → keys i = keys j → i = j)
theorem st_tb.cap {cap n e0 : Nat} {keys : Nat → Int64} {sl : Nat → Int32} (h : st_tb cap n e0 keys sl) : 0 < cap ∧ cap ≤ 16384 := by
  have h1 : 2 * cap ≤ 2 ^ 15 := by rw [h.1.1]; exact Nat.pow_le_pow_right (by omega) h.1.2
  have h2 : 0 < 2 * cap := by rw [h.1.1]; exact Nat.pos_of_ne_zero (by simp)
  omega
theorem nI_m1 {j : Nat} (h : j < 2 ^ 31) : ¬ nI j = -1 := fun q => nI_pos h (by rw [q]; decide)
theorem nI_inj {a b : Nat} (ha : a < 2 ^ 31) (hb : b < 2 ^ 31) (h : nI a = nI b) : a = b := (nI_eq ha hb).mp h
/-- a table is never full -/
theorem st_tb.room {cap n e0 : Nat} {keys : Nat → Int64} {sl : Nat → Int32} (h : st_tb cap n e0 keys sl) {key : Int64} (hp : st_pr cap n keys sl key (2 * cap)) : False := by
  have hc := h.cap
  have hex : ∀ q, ∃ j, q < 2 * cap → j < n ∧ sl (hs cap key q) = nI j := by
    intro q
    rcases Nat.lt_or_ge q (2 * cap) with hq | hq
    · obtain ⟨j, h1, h2, -⟩ := hp q hq
      exact ⟨j, fun _ => ⟨h1, h2⟩⟩
    · exact ⟨0, fun z => absurd z (by omega)⟩
  have := pg_inj n (2 * cap) (fun q => Classical.choose (hex q)) (fun q hq => (Classical.choose_spec (hex q) hq).1) (fun a b ha hb hab => by
    have h1 := Classical.choose_spec (hex a) ha
    have h2 := Classical.choose_spec (hex b) hb
    try dsimp only at hab
    rw [hab] at h1
    exact hs_inj ha hb (h.2.2.2.2.1 _ _ _ (hs_lt hc.1) (hs_lt hc.1) h2.1 h1.2 h2.2))
  have := h.2.1
  omega
/-- an empty place ahead of which other keys stand: the key is new -/
theorem st_tb.new {cap n e0 : Nat} {keys : Nat → Int64} {sl : Nat → Int32} (h : st_tb cap n e0 keys sl) {key : Int64} {k : Nat} (hk : k < 2 * cap) (hp : st_pr cap n keys sl key k) (he : sl (hs cap key k) = -1) : ∀ j, j < n → keys j ≠ key := by
  intro j hj hkey
  have hc := h.cap
  have hn := h.2.1
  obtain ⟨d, hd, h1, h2⟩ := h.2.2.2.1 j hj
  rw [hkey] at h1 h2
  rcases Nat.lt_trichotomy d k with q | q | q
  · obtain ⟨j2, g1, g2, g3⟩ := hp d q
    rw [h1] at g2
    rw [nI_inj (by omega) (by omega) g2] at hkey
    exact g3 hkey
  · rw [q, he] at h1
    exact nI_m1 (by omega) h1.symm
  · obtain ⟨i, g1, g2⟩ := h2 k q
    rw [he] at g2
    exact nI_m1 (by omega) g2.symm
/-- a new key comes to its empty place -/
theorem st_tb.ins {cap n e0 : Nat} {keys : Nat → Int64} {sl : Nat → Int32} (h : st_tb cap n e0 keys sl) {key : Int64} {k : Nat} (hk : k < 2 * cap) (hp : st_pr cap n keys sl key k) (he : sl (hs cap key k) = -1) (hn : n < cap) : st_tb cap (n + 1) e0 (vp_updL keys n key) (upd sl (hs cap key k) (nI n)) := by
  have hc := h.cap
  have hnew := h.new hk hp he
  have hk1 : ∀ j, j < n → vp_updL keys n key j = keys j := fun j hj => pk_uLn (by omega)
  have hk2 : vp_updL keys n key n = key := pk_uLs
  have hne : ∀ s j, sl s = nI j → j < n → s ≠ hs cap key k := fun s j h1 h2 z => by
    rw [z, he] at h1
    exact nI_m1 (by omega) h1.symm
  refine ⟨h.1, by omega, fun s hs' => ?_, fun j hj => ?_, fun s t j hs' ht hj h1 h2 => ?_, fun i j hi hj hij => ?_⟩
  · by_cases hq : s = hs cap key k
    · right; exact ⟨n, by omega, by rw [hq, pk_us]⟩
    · rw [pk_un hq]
      rcases h.2.2.1 s hs' with h1 | ⟨j, h1, h2⟩
      · left; exact h1
      · right; exact ⟨j, by omega, h2⟩
  · rcases Nat.lt_or_ge j n with h1 | h1
    · obtain ⟨d, hd, g1, g2⟩ := h.2.2.2.1 j h1
      refine ⟨d, hd, ?_, fun q hq => ?_⟩
      · rw [hk1 j h1, pk_un (hne _ j g1 h1)]; exact g1
      · obtain ⟨i, i1, i2⟩ := g2 q hq
        exact ⟨i, by omega, by rw [hk1 j h1, pk_un (hne _ i i2 i1)]; exact i2⟩
    · have : j = n := by omega
      subst this
      refine ⟨k, hk, by rw [hk2, pk_us], fun q hq => ?_⟩
      obtain ⟨i, i1, i2, -⟩ := hp q hq
      exact ⟨i, by omega, by rw [hk2, pk_un (hne _ i i2 i1)]; exact i2⟩
  · by_cases q1 : s = hs cap key k
    · by_cases q2 : t = hs cap key k
      · rw [q1, q2]
      · rw [pk_un q2] at h2
        rw [q1, pk_us] at h1
        rcases h.2.2.1 t ht with g | ⟨i, g1, g2⟩
        · rw [g] at h2; exact absurd h2.symm (nI_m1 (by omega))
        · rw [g2] at h2
          have e1 := nI_inj (by omega) (by omega) h1
          have e2 := nI_inj (by omega) (by omega) h2
          omega
    · by_cases q2 : t = hs cap key k
      · rw [pk_un q1] at h1
        rw [q2, pk_us] at h2
        rcases h.2.2.1 s hs' with g | ⟨i, g1, g2⟩
        · rw [g] at h1; exact absurd h1.symm (nI_m1 (by omega))
        · rw [g2] at h1
          have e1 := nI_inj (by omega) (by omega) h1
          have e2 := nI_inj (by omega) (by omega) h2
          omega
      · rw [pk_un q1] at h1
        rw [pk_un q2] at h2
        rcases h.2.2.1 s hs' with g | ⟨i, g1, g2⟩
        · rw [g] at h1; exact absurd h1.symm (nI_m1 (by omega))
        · have e1 := nI_inj (a := i) (b := j) (by omega) (by omega) (by rw [← g2]; exact h1)
          exact h.2.2.2.2.1 s t j hs' ht (by omega) h1 h2
  · rcases Nat.lt_or_ge i n with a1 | a1
    · rcases Nat.lt_or_ge j n with b1 | b1
      · rw [hk1 i a1, hk1 j b1] at hij; exact h.2.2.2.2.2 i j a1 b1 hij
      · have : j = n := by omega
        subst this
        rw [hk1 i a1, hk2] at hij
        exact absurd hij (hnew i a1)
    · have : i = n := by omega
      subst this
      rcases Nat.lt_or_ge j i with b1 | b1
      · rw [hk1 j b1, hk2] at hij
        exact absurd hij.symm (hnew j b1)
      · omega
/-- a key by its value and kind -/
theorem lg_key {v k : Nat} (hv : v < 4611686018427387904) (hk : k < 4) : (lN v <<< (Int32.toInt64 2 &&& 63)) ||| (Int32.toInt64 (nI k)) = lN (4 * v + k) := by
  have h1 : lN v <<< (Int32.toInt64 2 &&& 63) = lN (v * 4) := wb_shl v (k := 2) (by omega)
  rw [h1, nI_l (by omega), g_or (k := 2) (p := 4) (by decide) (by omega) (by omega)]
  congr 1
  omega
