/-! Reader: placeObject over the frames -/
set_option maxHeartbeats 1000000 in
/-- placeObject: an object is put where the frames want it -/
theorem c_Rd_place (l : Launch) (res lf lp nx sa kn len mark : Int32) (vu : Int64) (cap : Nat) (keys : Nat → Int64) (sta bas obj f wa dp ln mk pt sl : Nat → Int32) (n e0 : Nat) (t : Nat → Tr) (h : st_ok cap n e0 keys dp ln sl t) (lv hd : Nat) (fs : List Fr) (hR : rd_R lv hd res sta bas obj t n fs none) (hsg6 : ps_sg fs none ≠ 6) (hhd : hd < 1000) (o : Nat) (ho : o < n) (hcap : n + fs_pot fs < cap) : Con l y_Rd_placeObject M_Rd_placeObject 3 80 [.ref 0, .int (nI o)] (rdH (nI lv) (nI hd) res lf lp sta bas obj nx sa kn vu f wa len cap keys dp ln mk pt sl (nI n) mark) 15 0 0 0 (fun r h' => r = none ∧ ∃ (lv2 hd2 : Nat) (res2 : Int32) (sta2 bas2 obj2 : Nat → Int32) (n2 : Nat) (keys2 : Nat → Int64) (dp2 ln2 sl2 : Nat → Int32) (t2 : Nat → Tr), st_ok cap n2 e0 keys2 dp2 ln2 sl2 t2 ∧ rd_R lv2 hd2 res2 sta2 bas2 obj2 t2 n2 (ps_del fs (t o)).1 (ps_del fs (t o)).2 ∧ n ≤ n2 ∧ (∀ i, i < n → t2 i = t i) ∧ n2 + hd2 + fs_pot (ps_del fs (t o)).1 ≤ n + hd + fs_pot fs + 1 ∧ h' = rdH (nI lv2) (nI hd2) res2 lf lp sta2 bas2 obj2 nx sa kn vu f wa len cap keys2 dp2 ln2 mk pt sl2 (nI n2) mark) := by
  obtain ⟨hlv, h40, hok, hfs, h0, hhe, hob, -, htl⟩ := id hR
  obtain ⟨q, rest, e1, e2, e3, e4, e5, e6, e7, e8, e9⟩ := fs_dec fs hok hfs
  rcases e8 with e8 | ⟨x, r, e8, hx⟩
  · subst e8
    have hq : lv = 0 + q := by rw [hlv, ← e1]; rfl
    have hh0 : hd = 0 := by rw [hhe, e4]; rfl
    have hp0 : fs_pot fs = 2 * q := by rw [e7]; show 0 + 2 * q = 2 * q; omega
    subst hq
    refine (c_Rd_placeObject_t l res lf lp nx sa kn len mark vu cap keys sta bas obj f wa dp ln mk pt sl n e0 t h q hd (by omega) (fun i h1 h2 => e2 i h1 h2) 0 (by omega) (by omega) h0 hhd o ho (by omega)).mono ?_
    rintro r' h' ⟨rfl, j, n2, keys2, dp2, ln2, sl2, t2, g1, g2, g3, g4, g5, g6, rfl⟩
    refine ⟨rfl, 0, hd, nI j, upd sta 0 1, bas, obj, n2, keys2, dp2, ln2, sl2, t2, g1, ?_, g4, g6, ?_, rfl⟩
    · rw [e5]
      exact rd_R.top (lv := 0) (res := res) (t := t) (n := n) hh0 g2 g3
    · rw [e5]
      show n2 + hd + 0 ≤ _
      omega
  · subst e8
    have hq : lv = r.length + 1 + q := by rw [hlv, ← e1]; rfl
    have hx' : ¬ x.1 = true := by rw [hx]; decide
    have hs1 : x.2.1 ≤ 1 ∧ ∀ y ∈ r, y.2.1 ≤ 1 := by
      rcases e9 with ⟨e9, e10⟩ | e9
      · rw [← e10] at htl hsg6
        refine ⟨?_, htl⟩
        have := (e6 x List.mem_cons_self).2.1
        rcases (show x.2.1 ≤ 1 ∨ x.2.1 = 2 by omega) with z | z
        · exact z
        · exfalso
          refine hsg6 ?_
          show fr_sg x = 6
          unfold fr_sg
          rw [if_neg hx', if_neg (by omega), if_neg (by omega)]
      · exact ⟨htl x (e9 x List.mem_cons_self), fun y hy => htl y (e9 y (List.mem_cons_of_mem _ hy))⟩
    have hsg2 : fr_sg x ≠ 2 := by
      unfold fr_sg
      rw [if_neg hx']
      repeat' split
      all_goals omega
    subst hq
    refine (c_Rd_placeObject_s l res lf lp nx sa kn len mark vu cap keys sta bas obj f wa dp ln mk pt sl n e0 t h (r.length + 1) (by omega) q hd (by omega) (fun i h1 h2 => e2 i h1 h2) (fr_sg x) (fr_sg_lt x) hsg2 e3.1 hhd o ho (by omega)).mono ?_
    rintro r' h' ⟨rfl, j, n2, keys2, dp2, ln2, sl2, t2, g1, g2, g3, g4, g5, g6, rfl⟩
    refine ⟨rfl, r.length + 1, hd + 1, res, upd sta (r.length + 1) (if fr_sg x = 5 then 6 else 4), bas, upd obj hd (nI j), n2, keys2, dp2, ln2, sl2, t2, g1, ?_, g4, g6, ?_, rfl⟩
    · rw [e5]
      exact rd_R.lst (t := t) (n := n) hx (by omega) e6 e3 h0 (by rw [hhe, e4]) (by rw [← e4]; exact hob) g4 g6 g2 g3 hs1.1 hs1.2
    · rw [e5]
      have hpp : fs_pot (ps_del (x :: r) (qw q (t o))).1 = fs_pot (x :: r) := by
        simp only [ps_del, if_neg hx']
        split <;> simp [fs_pot, hx]
      rw [hpp]
      omega
