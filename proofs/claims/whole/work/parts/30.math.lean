/-! numbers: more places than things -/
theorem pg_inj : ∀ (n m : Nat) (f : Nat → Nat), (∀ i, i < m → f i < n) → (∀ i j, i < m → j < m → f i = f j → i = j) → m ≤ n := by
  intro n
  induction n with
  | zero =>
    intro m f hf _
    rcases Nat.eq_zero_or_pos m with h | h
    · omega
    · exact absurd (hf 0 h) (by omega)
  | succ n ih =>
    intro m f hf hi
    rcases m with _ | m
    · omega
    · have := ih m (fun i => if f i = n then f m else f i) (fun i hm => by
        have h1 := hf i (by omega)
        have h2 := hf m (by omega)
        try dsimp only
        split
        · rename_i h3
          have : f m ≠ n := fun h4 => by
            have := hi i m (by omega) (by omega) (by omega)
            omega
          omega
        · omega) (fun i j hm hn he => by
        try dsimp only at he
        split at he <;> split at he
        · exact hi i j (by omega) (by omega) (by omega)
        · have := hi m j (by omega) (by omega) he
          omega
        · have := hi i m (by omega) (by omega) he
          omega
        · exact hi i j (by omega) (by omega) he)
      omega
