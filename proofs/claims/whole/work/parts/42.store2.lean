/-! Store: where a key stands -/
def hs_x (key : Int64) : Int32 := Int64.toInt32 (Int64.toUInt64 (key * (-7046029254386353131)) >>> ((Int32.toInt64 32).toUInt64 &&& Int64.toUInt64 63)).toInt64
def hs (cap : Nat) (key : Int64) (k : Nat) : Nat := ((hs_x key).toBitVec.toNat + k) % (2 * cap)
theorem hs_lt {cap k : Nat} {key : Int64} (h : 0 < cap) : hs cap key k < 2 * cap := Nat.mod_lt _ (by omega)
theorem hs_inj {cap a b : Nat} {key : Int64} (ha : a < 2 * cap) (hb : b < 2 * cap) (h : hs cap key a = hs cap key b) : a = b := by
  unfold hs at h
  generalize (hs_x key).toBitVec.toNat = X at h
  have e1 := Nat.div_add_mod (X + a) (2 * cap)
  have e2 := Nat.div_add_mod (X + b) (2 * cap)
  rw [h] at e1
  generalize (X + a) / (2 * cap) = u at e1
  generalize (X + b) / (2 * cap) = v at e2
  rcases Nat.lt_trichotomy u v with q | q | q
  · have : 2 * cap * (u + 1) ≤ 2 * cap * v := Nat.mul_le_mul_left _ q
    rw [Nat.mul_add] at this
    omega
  · subst q; omega
  · have : 2 * cap * (v + 1) ≤ 2 * cap * u := Nat.mul_le_mul_left _ q
    rw [Nat.mul_add] at this
    omega
theorem hs_and {cap e k : Nat} {key : Int64} (he : 2 * cap = 2 ^ e) (h : e ≤ 15) : (hs_x key + nI k) &&& (nI (2 * cap) - 1) = nI (hs cap key k) := by
  have hp : 0 < 2 ^ e := Nat.pos_of_ne_zero (by simp)
  have hle : 2 ^ e ≤ 2 ^ 15 := Nat.pow_le_pow_right (by omega) h
  have hm : (nI (2 * cap) - 1).toBitVec.toNat = 2 ^ e - 1 := by
    rw [show nI (2 * cap) - 1 = nI (2 * cap - 1) from pk_sub (a := 2 * cap) (b := 1) (by omega), pk_tn (by omega)]
    omega
  rw [pk_and _ e hm]
  congr 1
  unfold hs
  rw [he]
  have h1 : (hs_x key + nI k).toBitVec.toNat = ((hs_x key).toBitVec.toNat + (nI k).toBitVec.toNat) % 2 ^ 32 := by
    rw [Int32.toBitVec_add, BitVec.toNat_add]
  have h2 : (nI k).toBitVec.toNat = k % 2 ^ 32 := by
    unfold nI
    simp
  rw [h1, h2]
  have hd : 2 ^ e ∣ 2 ^ 32 := Nat.pow_dvd_pow 2 (by omega)
  rw [Nat.mod_mod_of_dvd _ hd, Nat.add_mod, Nat.mod_mod_of_dvd _ hd, ← Nat.add_mod]
/-- the places of a key up to k hold other keys -/
def st_pr (cap n : Nat) (keys : Nat → Int64) (sl : Nat → Int32) (key : Int64) (k : Nat) : Prop := ∀ q, q < k → ∃ j, j < n ∧ sl (hs cap key q) = nI j ∧ keys j ≠ key
set_option maxHeartbeats 2000000 in
set_option maxRecDepth 100000 in
theorem c_St_slotOf (l : Launch) (cap n : Nat) (keys : Nat → Int64) (dp ln mk pt sl : Nat → Int32) (mark : Int32) (key : Int64) (e0 : Nat) (he : 2 * cap = 2 ^ e0 ∧ e0 ≤ 15) (hn : n ≤ cap) (hsl : ∀ s, s < 2 * cap → sl s = -1 ∨ ∃ j, j < n ∧ sl s = nI j) : Con l y_St_slotOf M_St_slotOf 0 0 [.ref 0, .long key] (stH cap keys dp ln mk pt sl (nI n) mark) 7 0 0 0 (fun r h' => ((∃ k, k < 2 * cap ∧ st_pr cap n keys sl key k ∧ r = some (.int (nI (hs cap key k))) ∧ (sl (hs cap key k) = -1 ∨ ∃ j, j < n ∧ sl (hs cap key k) = nI j ∧ keys j = key)) ∨ (st_pr cap n keys sl key (2 * cap) ∧ r = some (.int (-1)))) ∧ h' = stH cap keys dp ln mk pt sl (nI n) mark) := by
  refine Con.ent ok_St_slotOf (by decide +kernel) rfl ?_
  intro pA eA sA mA argsA belowA methA cA GA μA
  have hcap : 2 * cap ≤ 2 ^ 15 := by rw [he.1]; exact Nat.pow_le_pow_right (by omega) he.2
  refine aw_go 9 13 [some (.ref 0), some (.long key), none, some (.int (hs_x key)), some (.int (nI 0)), none, none] [] (stH cap keys dp ln mk pt sl (nI n) mark) rfl ?_
  refine aw_loop (σ := Nat) (fun k => k ≤ 2 * cap ∧ st_pr cap n keys sl key k) (fun k => 2 * cap - k) (fun k => [some (.ref 0), some (.long key), none, some (.int (hs_x key)), some (.int (nI k)), none, none]) (fun _ => []) (fun _ => (stH cap keys dp ln mk pt sl (nI n) mark)) ?_ 0 ⟨by omega, fun q h => absurd h (by omega)⟩
  intro k hI ih
  refine aw_go 4 20 [some (.ref 0), some (.long key), none, some (.int (hs_x key)), some (.int (nI k)), none, none] [.int (nI (2 * cap)), .int (nI k)] (stH cap keys dp ln mk pt sl (nI n) mark) rfl ?_
  refine aw_cmp_ge rfl (fun h20 => ?_) (fun h20 => ?_)
  · refine aw_go 1 82 [some (.ref 0), some (.long key), none, some (.int (hs_x key)), some (.int (nI k)), none, none] [.int (-1)] (stH cap keys dp ln mk pt sl (nI n) mark) rfl ?_
    exact aw_iret rfl rfl rfl ⟨Or.inr ⟨(show k = 2 * cap from (by have := hI.1; have h9 : ¬ k < 2 * cap := (fun q => nI_ge q (by omega) h20); omega)) ▸ hI.2, rfl⟩, rfl⟩ rfl (Nat.le_refl _) (Nat.le_refl _) -- [.int (-1)] (stH cap keys dp ln mk pt sl (nI n) mark)
  · have hkc : k < 2 * cap := Nat.not_le.mp fun q => h20 (nI_le q (by omega))
    refine aw_go 13 43 [some (.ref 0), some (.long key), none, some (.int (hs_x key)), some (.int (nI k)), some (.int (((hs_x key) + (nI k)) &&& ((nI (2 * cap)) - 1))), none] [.int (((hs_x key) + (nI k)) &&& ((nI (2 * cap)) - 1)), .ref 6] (stH cap keys dp ln mk pt sl (nI n) mark) rfl ?_
    rw [hs_and he.1 he.2]
    refine aw_ialdN rfl rfl ⟨hs_lt (by omega), by omega⟩ ?_
    rcases hsl (hs cap key k) (hs_lt (by omega)) with hv | ⟨j, hj, hv⟩ <;> rw [hv]
    · refine aw_go 2 48 [some (.ref 0), some (.long key), none, some (.int (hs_x key)), some (.int (nI k)), some (.int (nI (hs cap key k))), some (.int (-1))] [.int (-1)] (stH cap keys dp ln mk pt sl (nI n) mark) rfl ?_
      refine aw_if_lt rfl (fun h48 => ?_) (fun h48 => absurd h48 (by decide))
      refine aw_go 1 74 [some (.ref 0), some (.long key), none, some (.int (hs_x key)), some (.int (nI k)), some (.int (nI (hs cap key k))), some (.int (-1))] [.int (nI (hs cap key k))] (stH cap keys dp ln mk pt sl (nI n) mark) rfl ?_
      exact aw_iret rfl rfl rfl ⟨Or.inl ⟨k, hkc, hI.2, rfl, Or.inl hv⟩, rfl⟩ rfl (Nat.le_refl _) (Nat.le_refl _) -- [.int (nI (hs cap key k))] (stH cap keys dp ln mk pt sl (nI n) mark)
    · refine aw_go 2 48 [some (.ref 0), some (.long key), none, some (.int (hs_x key)), some (.int (nI k)), some (.int (nI (hs cap key k))), some (.int (nI j))] [.int (nI j)] (stH cap keys dp ln mk pt sl (nI n) mark) rfl ?_
      refine aw_if_lt rfl (fun h48 => absurd h48 (nI_pos (by omega))) (fun h48 => ?_)
      refine aw_go 3 57 [some (.ref 0), some (.long key), none, some (.int (hs_x key)), some (.int (nI k)), some (.int (nI (hs cap key k))), some (.int (nI j))] [.int (nI n), .int (nI j)] (stH cap keys dp ln mk pt sl (nI n) mark) rfl ?_
      refine aw_cmp_ge rfl (fun h57 => absurd h57 (nI_ge hj (by omega))) (fun h57 => ?_)
      refine aw_go 3 66 [some (.ref 0), some (.long key), none, some (.int (hs_x key)), some (.int (nI k)), some (.int (nI (hs cap key k))), some (.int (nI j))] [.int (nI j), .ref 1] (stH cap keys dp ln mk pt sl (nI n) mark) rfl ?_
      refine aw_laldN rfl rfl ⟨by omega, by omega⟩ ?_
      refine aw_go 2 69 [some (.ref 0), some (.long key), none, some (.int (hs_x key)), some (.int (nI k)), some (.int (nI (hs cap key k))), some (.int (nI j))] [.int (lg_cmp (keys j) key)] (stH cap keys dp ln mk pt sl (nI n) mark) rfl ?_
      refine aw_if_ne rfl (fun h69 => ?_) (fun h69 => ?_)
      · refine aw_go 2 13 [some (.ref 0), some (.long key), none, some (.int (hs_x key)), some (.int ((nI k) + 1)), some (.int (nI (hs cap key k))), some (.int (nI j))] [] (stH cap keys dp ln mk pt sl (nI n) mark) rfl ?_
        -- LOOP 13: [some (.ref 0), some (.long key), none, some (.int (hs_x key)), some (.int ((nI k) + 1)), some (.int (nI (hs cap key k))), some (.int (nI j))] [] (stH cap keys dp ln mk pt sl (nI n) mark)
        exact aw_mask [true, true, true, true, true, false, false] (aw_eq (by simp only [nI_succ]; rfl) rfl rfl (ih (k + 1) ⟨by omega, fun q hq => by
          rcases Nat.lt_or_ge q k with h | h
          · exact hI.2 q h
          · rw [show q = k by omega]; exact ⟨j, hj, hv, fun z => h69 (lg_c0.mpr z)⟩⟩ (by omega)))
      · refine aw_go 1 74 [some (.ref 0), some (.long key), none, some (.int (hs_x key)), some (.int (nI k)), some (.int (nI (hs cap key k))), some (.int (nI j))] [.int (nI (hs cap key k))] (stH cap keys dp ln mk pt sl (nI n) mark) rfl ?_
        exact aw_iret rfl rfl rfl ⟨Or.inl ⟨k, hkc, hI.2, rfl, Or.inr ⟨j, hj, hv, lg_c0.mp h69⟩⟩, rfl⟩ rfl (Nat.le_refl _) (Nat.le_refl _) -- [.int (nI (hs cap key k))] (stH cap keys dp ln mk pt sl (nI n) mark)
