/-! Reader: takeWord -/
theorem rd_R.ext {lv hd : Nat} {res : Int32} {sta bas obj : Nat → Int32} {t t2 : Nat → Tr} {n n2 : Nat} {fs : List Fr} {dn : Option Tr} (h : rd_R lv hd res sta bas obj t n fs dn) (hn : n ≤ n2) (ht : ∀ i, i < n → t2 i = t i) : rd_R lv hd res sta bas obj t2 n2 fs dn := by
  obtain ⟨h1, h2, h3, h4, h5, h6, h7, h8, h9⟩ := h
  refine ⟨h1, h2, h3, h4, h5, h6, h7.keep (fun _ _ => rfl) hn ht, fun T hT => ?_, h9⟩
  obtain ⟨k1, i, k2, k3, k4⟩ := h8 T hT
  exact ⟨k1, i, by omega, k3, by rw [ht i k2]; exact k4⟩
/-- no frame has ended -/
theorem rd_R.low {lv hd : Nat} {res : Int32} {sta bas obj : Nat → Int32} {t : Nat → Tr} {n : Nat} {fs : List Fr} (h : rd_R lv hd res sta bas obj t n fs none) (hsg : ps_sg fs none ≠ 6) : ∀ x ∈ fs, x.2.1 ≤ 1 := by
  obtain ⟨h1, h2, h3, h4, h5, h6, h7, h8, h9⟩ := h
  cases fs with
  | nil => intro x hx; cases hx
  | cons y r =>
    intro x hx
    rcases List.mem_cons.mp hx with e | e
    · rw [e]
      have hy := h3 y List.mem_cons_self
      rcases (show y.2.1 ≤ 1 ∨ y.2.1 = 2 by have := hy.2.1; omega) with z | z
      · exact z
      · exfalso
        refine hsg ?_
        show fr_sg y = 6
        have : ¬ y.1 = true := fun q => by have := (hy.1 q).1; omega
        unfold fr_sg
        rw [if_neg this, if_neg (by omega), if_neg (by omega)]
    · exact h9 x e
theorem rd_R.opn {lv hd : Nat} {res : Int32} {sta bas obj : Nat → Int32} {t : Nat → Tr} {n : Nat} {fs : List Fr} (h : rd_R lv hd res sta bas obj t n fs none) (hsg : ps_sg fs none ≠ 6) (hlv : lv < 40) (b : Bool) {sx : Int32} (hs : sx = nI (fr_sg (b, 0, [], tr_nil))) : rd_R (lv + 1) hd res (upd sta (lv + 1) sx) (upd bas (lv + 1) (nI hd)) obj t n ((b, 0, [], tr_nil) :: fs) none := by
  have hlow := h.low hsg
  obtain ⟨h1, h2, h3, h4, h5, h6, h7, h8, h9⟩ := h
  have he : fs_ob (((b, 0, [], tr_nil) : Fr) :: fs) = fs_ob fs := by simp [fs_ob, fr_ob]
  refine ⟨by rw [h1]; rfl, by simp; omega, fun x hx => ?_, ⟨?_, ?_, rd_fs.keep fs (fun i hi => ⟨pk_un (by omega), pk_un (by omega)⟩) h4⟩, by rw [pk_un (by omega)]; exact h5, by rw [he]; exact h6, by rw [he]; exact h7, (fun T hT => nomatch hT), hlow⟩
  · rcases List.mem_cons.mp hx with e | e
    · rw [e]; exact ⟨fun _ => ⟨rfl, rfl⟩, Nat.zero_le _, fun z => absurd rfl z⟩
    · exact h3 x e
  · rw [← h1, pk_us]; exact hs
  · rw [← h1, pk_us, h6]
theorem rd_R.dot {lv hd : Nat} {res : Int32} {sta bas obj : Nat → Int32} {t : Nat → Tr} {n : Nat} {x : Fr} {r : List Fr} (h : rd_R lv hd res sta bas obj t n (x :: r) none) (hsg : fr_sg x = 4) : rd_R lv hd res (upd sta lv 5) bas obj t n ((x.1, 1, x.2.2) :: r) none := by
  obtain ⟨h1, h2, h3, h4, h5, h6, h7, h8, h9⟩ := h
  have hx : ¬ x.1 = true ∧ x.2.1 = 0 ∧ x.2.2.1 ≠ [] := by
    unfold fr_sg at hsg
    by_cases a : x.1 = true
    · rw [if_pos a] at hsg; omega
    · rw [if_neg a] at hsg
      by_cases c : x.2.1 = 0
      · rw [if_pos c] at hsg
        refine ⟨a, c, fun z => ?_⟩
        rw [z] at hsg
        simp at hsg
      · rw [if_neg c] at hsg
        split at hsg <;> omega
  have he : fs_ob (((x.1, 1, x.2.2) : Fr) :: r) = fs_ob (x :: r) := by simp [fs_ob, fr_ob, hx.2.1]
  have hl : lv = r.length + 1 := h1
  refine ⟨h1, h2, fun y hy => ?_, ⟨?_, ?_, rd_fs.keep r (fun i hi => ⟨pk_un (by omega), rfl⟩) h4.2.2⟩, by rw [pk_un (by omega)]; exact h5, by rw [he]; exact h6, by rw [he]; exact h7, (fun T hT => nomatch hT), h9⟩
  · rcases List.mem_cons.mp hy with e | e
    · rw [e]; exact ⟨fun z => absurd z hx.1, by show 1 ≤ 2; omega, fun _ => hx.2.2⟩
    · exact h3 y (List.mem_cons_of_mem _ e)
  · rw [← hl, pk_us]
    simp [fr_sg, hx.1]
    rfl
  · exact h4.2.1
/-- what is known of a list that is closed -/
theorem rd_R.clo {lv hd : Nat} {res : Int32} {sta bas obj : Nat → Int32} {t : Nat → Tr} {n : Nat} {x : Fr} {r : List Fr} (h : rd_R lv hd res sta bas obj t n (x :: r) none) (hsg : fr_sg x = 3 ∨ fr_sg x = 4 ∨ fr_sg x = 6) : lv = r.length + 1 ∧ r.length < 40 ∧ bas (r.length + 1) = nI (fs_ob r).length ∧ ob_R obj t n (fs_ob r).length x.2.2.1 ∧ rd_R r.length (fs_ob r).length res sta bas obj t n r none ∧ ps_sg r none ≠ 6 ∧ sta (r.length + 1) = nI (fr_sg x) ∧ ((x.2.1 = 0 ∧ fr_sg x < 6 ∧ hd = (fs_ob r).length + x.2.2.1.length) ∨ (x.2.1 = 2 ∧ fr_sg x = 6 ∧ hd = (fs_ob r).length + x.2.2.1.length + 1 ∧ ∃ i, i < n ∧ obj ((fs_ob r).length + x.2.2.1.length) = nI i ∧ t i = x.2.2.2)) := by
  obtain ⟨h1, h2, h3, h4, h5, h6, h7, h8, h9⟩ := h
  have hx' : ¬ x.1 = true := fun a => by
    unfold fr_sg at hsg
    rw [if_pos a] at hsg
    omega
  have hs : x.2.1 = 0 ∧ fr_sg x < 6 ∨ x.2.1 = 2 ∧ fr_sg x = 6 := by
    have := (h3 x List.mem_cons_self).2.1
    unfold fr_sg at hsg ⊢
    rw [if_neg hx'] at hsg ⊢
    rcases (show x.2.1 = 0 ∨ x.2.1 = 1 ∨ x.2.1 = 2 by omega) with z | z | z
    · left
      refine ⟨z, ?_⟩
      rw [if_pos z]
      split <;> omega
    · rw [if_neg (by omega), if_pos z] at hsg
      omega
    · right
      exact ⟨z, by rw [if_neg (by omega), if_neg (by omega)]⟩
  have hm := ob_R.mid (show ob_R obj t n 0 (fs_ob r ++ fr_ob x) from h7)
  have hl2 : r.length + 1 ≤ 40 := h2
  have hr : rd_R r.length (fs_ob r).length res sta bas obj t n r none := ⟨rfl, by omega, fun y hy => h3 y (List.mem_cons_of_mem _ hy), h4.2.2, h5, rfl, hm.1, (fun T hT => nomatch hT), fun y hy => h9 y (List.mem_of_mem_tail hy)⟩
  have hr6 : ps_sg r none ≠ 6 := by
    cases r with
    | nil => exact (by decide : (0 : Nat) ≠ 6)
    | cons y r2 =>
      show fr_sg y ≠ 6
      have := h9 y List.mem_cons_self
      unfold fr_sg
      repeat' split
      all_goals omega
  have hit : ob_R obj t n (fs_ob r).length x.2.2.1 := by
    intro m hm2
    obtain ⟨i, k1, k2, k3⟩ := hm.2 m (by unfold fr_ob; simp; omega)
    refine ⟨i, k1, k2, ?_⟩
    rw [k3]
    unfold fr_ob
    rw [List.getElem?_append_left hm2]
  refine ⟨h1, by omega, h4.2.1, hit, hr, hr6, h4.1, ?_⟩
  rcases hs with ⟨a, b⟩ | ⟨a, b⟩
  · left
    refine ⟨a, b, ?_⟩
    rw [h6]
    simp [fs_ob, fr_ob, a]
  · right
    refine ⟨a, b, ?_, ?_⟩
    · rw [h6]
      simp [fs_ob, fr_ob, a]
      omega
    · obtain ⟨i, k1, k2, k3⟩ := hm.2 x.2.2.1.length (by unfold fr_ob; simp [a])
      refine ⟨i, k1, k2, ?_⟩
      unfold fr_ob at k3
      rw [if_pos a, List.getElem?_append_right (Nat.le_refl _), Nat.sub_self] at k3
      exact Option.some.inj k3
theorem fs_pot_cons (x : Fr) (r : List Fr) : fs_pot r + 1 ≤ fs_pot (x :: r) := by
  simp only [fs_pot]
  split <;> omega

