/-! the parser as a machine on trees: frames that have begun, the inmost first: whether it is a quote, its state (0 items, 1 behind the dot, 2 ended), its items, the object behind the dot -/
abbrev Fr : Type := Bool × Nat × List Tr × Tr
def fr_ok (x : Fr) : Prop := (x.1 = true → x.2.1 = 0 ∧ x.2.2.1 = []) ∧ x.2.1 ≤ 2 ∧ (x.2.1 ≠ 0 → x.2.2.1 ≠ [])
def fr_ob (x : Fr) : List Tr := x.2.2.1 ++ (if x.2.1 = 2 then [x.2.2.2] else [])
def fs_ob : List Fr → List Tr
  | [] => []
  | x :: r => fs_ob r ++ fr_ob x
def fr_sg (x : Fr) : Nat := if x.1 = true then 2 else if x.2.1 = 0 then (if x.2.2.1.isEmpty = true then 3 else 4) else if x.2.1 = 1 then 5 else 6
def ps_sg (fs : List Fr) (dn : Option Tr) : Nat := match fs with
  | [] => (match dn with
    | some _ => 1
    | none => 0)
  | x :: _ => fr_sg x
def fr_tr (x : Fr) : Tr := x.2.2.1.foldr .op (if x.2.1 = 2 then x.2.2.2 else tr_nil)
/-- an object is put where the inmost frame wants it -/
def ps_del : List Fr → Tr → List Fr × Option Tr
  | [], T => ([], some T)
  | x :: r, T => if x.1 = true then ps_del r (.op tr_quote (.op T tr_nil)) else if x.2.1 = 1 then ((false, 2, x.2.2.1, T) :: r, none) else ((false, x.2.1, x.2.2.1 ++ [T], x.2.2.2) :: r, none)
/-- a word is taken: 2 ( 3 ) 4 ' 5 . and else an atom T -/
def ps_step (fs : List Fr) (dn : Option Tr) (k : Nat) (T : Tr) : List Fr × Option Tr := if k = 2 then ((false, 0, [], tr_nil) :: fs, dn) else if k = 4 then ((true, 0, [], tr_nil) :: fs, dn) else if k = 5 then (match fs with
  | x :: r => ((x.1, 1, x.2.2) :: r, dn)
  | [] => ([], dn)) else if k = 3 then (match fs with
  | x :: r => ps_del r (fr_tr x)
  | [] => ([], dn)) else ps_del fs T
/-- what the frames may still cost -/
def fs_pot : List Fr → Nat
  | [] => 0
  | x :: r => fs_pot r + (if x.1 = true then 2 else 1)
/-- the Reader's rows hold the frames -/
def rd_fs (sta bas : Nat → Int32) : List Fr → Prop
  | [] => True
  | x :: r => sta (r.length + 1) = nI (fr_sg x) ∧ bas (r.length + 1) = nI (fs_ob r).length ∧ rd_fs sta bas r
def rd_R (lv hd : Nat) (res : Int32) (sta bas obj : Nat → Int32) (t : Nat → Tr) (n : Nat) (fs : List Fr) (dn : Option Tr) : Prop := lv = fs.length ∧ fs.length ≤ 40 ∧ (∀ x ∈ fs, fr_ok x) ∧ rd_fs sta bas fs ∧ sta 0 = nI (ps_sg [] dn) ∧ hd = (fs_ob fs).length ∧ ob_R obj t n 0 (fs_ob fs) ∧ (∀ T, dn = some T → fs = [] ∧ ∃ i, i < n ∧ res = nI i ∧ t i = T) ∧ (∀ x ∈ fs.tail, x.2.1 ≤ 1)
theorem fr_sg_lt (x : Fr) : fr_sg x < 7 := by
  unfold fr_sg
  repeat' split
  all_goals omega
theorem ps_sg_lt (fs : List Fr) (dn : Option Tr) : ps_sg fs dn < 7 := by
  unfold ps_sg
  split
  · split <;> omega
  · exact fr_sg_lt _
theorem rd_R.sg {lv hd : Nat} {res : Int32} {sta bas obj : Nat → Int32} {t : Nat → Tr} {n : Nat} {fs : List Fr} {dn : Option Tr} (h : rd_R lv hd res sta bas obj t n fs dn) : sta lv = nI (ps_sg fs dn) := by
  obtain ⟨h1, -, -, h4, h5, -⟩ := h
  cases fs with
  | nil => rw [h1]; exact h5
  | cons x r => rw [h1]; exact h4.1
theorem rd_fs.keep {sta bas sta2 bas2 : Nat → Int32} : ∀ (fs : List Fr), (∀ i, i ≤ fs.length → sta2 i = sta i ∧ bas2 i = bas i) → rd_fs sta bas fs → rd_fs sta2 bas2 fs := by
  intro fs
  induction fs with
  | nil => intro _ _; trivial
  | cons x r ih =>
    intro h1 h2
    have := h1 (r.length + 1) (by simp)
    exact ⟨by rw [this.1]; exact h2.1, by rw [this.2]; exact h2.2.1, ih (fun i hi => h1 i (by simp; omega)) h2.2.2⟩
theorem ob_R.keep {obj obj2 : Nat → Int32} {t t2 : Nat → Tr} {n n2 b0 : Nat} {its : List Tr} (h : ob_R obj t n b0 its) (ho : ∀ j, j < b0 + its.length → obj2 j = obj j) (hn : n ≤ n2) (ht : ∀ i, i < n → t2 i = t i) : ob_R obj2 t2 n2 b0 its := by
  intro m hm
  obtain ⟨i, h1, h2, h3⟩ := h m hm
  exact ⟨i, by omega, by rw [ho _ (by omega)]; exact h2, by rw [ht i h1]; exact h3⟩
theorem ob_R.push {obj : Nat → Int32} {t : Nat → Tr} {n : Nat} {its : List Tr} {j : Nat} {T : Tr} (h : ob_R obj t n 0 its) (hj : j < n) (hT : t j = T) : ob_R (upd obj its.length (nI j)) t n 0 (its ++ [T]) := by
  intro m hm
  simp only [List.length_append, List.length_cons, List.length_nil] at hm
  rcases Nat.lt_or_ge m its.length with q | q
  · obtain ⟨i, h1, h2, h3⟩ := h m q
    exact ⟨i, h1, by rw [pk_un (by omega)]; exact h2, by rw [List.getElem?_append_left q]; exact h3⟩
  · have : m = its.length := by omega
    subst this
    refine ⟨j, hj, by rw [Nat.zero_add, pk_us], ?_⟩
    rw [List.getElem?_append_right (Nat.le_refl _), Nat.sub_self, hT]
    rfl
theorem ob_R.mid {obj : Nat → Int32} {t : Nat → Tr} {n : Nat} {a b : List Tr} (h : ob_R obj t n 0 (a ++ b)) : ob_R obj t n 0 a ∧ ob_R obj t n a.length b := by
  refine ⟨fun m hm => ?_, fun m hm => ?_⟩
  · obtain ⟨i, h1, h2, h3⟩ := h m (by simp; omega)
    exact ⟨i, h1, h2, by rw [h3, List.getElem?_append_left hm]⟩
  · obtain ⟨i, h1, h2, h3⟩ := h (a.length + m) (by simp; omega)
    refine ⟨i, h1, by rw [← h2, Nat.zero_add], ?_⟩
    rw [h3, List.getElem?_append_right (by omega), show a.length + m - a.length = m by omega]
/-- the quotes that are inmost -/
theorem fs_dec {sta bas : Nat → Int32} : ∀ (fs : List Fr), (∀ x ∈ fs, fr_ok x) → rd_fs sta bas fs → ∃ (q : Nat) (rest : List Fr), rest.length + q = fs.length ∧ (∀ i, rest.length < i → i ≤ rest.length + q → sta i = nI 2) ∧ rd_fs sta bas rest ∧ fs_ob fs = fs_ob rest ∧ (∀ T, ps_del fs T = ps_del rest (qw q T)) ∧ (∀ x ∈ rest, fr_ok x) ∧ fs_pot fs = fs_pot rest + 2 * q ∧ (rest = [] ∨ ∃ x r, rest = x :: r ∧ x.1 = false) ∧ ((q = 0 ∧ rest = fs) ∨ ∀ y ∈ rest, y ∈ fs.tail) := by
  intro fs
  induction fs with
  | nil => intro _ _; exact ⟨0, [], rfl, fun i h1 h2 => by simp at h1 h2; omega, trivial, rfl, fun _ => rfl, (fun x hx => nomatch hx), rfl, Or.inl rfl, Or.inl ⟨rfl, rfl⟩⟩
  | cons x r ih =>
    intro h1 h2
    cases hx : x.1 with
    | false => exact ⟨0, x :: r, rfl, fun i h3 h4 => by simp at h3 h4; omega, h2, rfl, fun _ => rfl, h1, rfl, Or.inr ⟨x, r, rfl, hx⟩, Or.inl ⟨rfl, rfl⟩⟩
    | true =>
      obtain ⟨q, rest, g1, g2, g3, g4, g5, g6, g7, g8, g9⟩ := ih (fun y hy => h1 y (List.mem_cons_of_mem _ hy)) h2.2.2
      obtain ⟨k1, k2⟩ := (h1 x List.mem_cons_self).1 hx
      refine ⟨q + 1, rest, by simp; omega, fun i h3 h4 => ?_, g3, ?_, fun T => ?_, g6, ?_, g8, Or.inr (fun y hy => ?_)⟩
      · rcases Nat.lt_or_ge (rest.length + q) i with z | z
        · rw [show i = r.length + 1 by omega, h2.1]
          unfold fr_sg
          rw [if_pos hx]
        · exact g2 i h3 z
      · simp only [fs_ob, fr_ob, k1, k2]
        simp [g4]
      · simp only [ps_del, if_pos hx]
        exact g5 _
      · simp only [fs_pot, if_pos hx, g7]
        omega
      · show y ∈ r
        rcases g9 with ⟨-, g9⟩ | g9
        · rw [← g9]; exact hy
        · exact List.mem_of_mem_tail (g9 y hy)
/-- an object is put at the top -/
theorem rd_R.top {lv hd : Nat} {res : Int32} {sta bas obj : Nat → Int32} {t t2 : Nat → Tr} {n n2 j : Nat} {T : Tr} (hob : hd = 0) (hj : j < n2) (hT : t2 j = T) : rd_R 0 hd (nI j) (upd sta 0 1) bas obj t2 n2 [] (some T) := by
  refine ⟨rfl, by simp, (fun x hx => nomatch hx), trivial, by rw [pk_us]; rfl, hob, fun m hm => by simp [fs_ob] at hm, (fun T' hT' => ⟨rfl, j, hj, rfl, by cases hT'; exact hT⟩), (fun x hx => nomatch hx)⟩
/-- an object is put into a list -/
theorem rd_R.lst {hd : Nat} {res : Int32} {sta bas obj : Nat → Int32} {t t2 : Nat → Tr} {n n2 j : Nat} {T : Tr} {x : Fr} {r : List Fr} (hx : x.1 = false) (hlen : r.length + 1 ≤ 40) (hok : ∀ y ∈ x :: r, fr_ok y) (hfs : rd_fs sta bas (x :: r)) (h0 : sta 0 = nI 0) (hhd : hd = (fs_ob (x :: r)).length) (hob : ob_R obj t n 0 (fs_ob (x :: r))) (hn : n ≤ n2) (ht : ∀ i, i < n → t2 i = t i) (hj : j < n2) (hT : t2 j = T) (hs : x.2.1 ≤ 1) (htl : ∀ y ∈ r, y.2.1 ≤ 1) : rd_R (r.length + 1) (hd + 1) res (upd sta (r.length + 1) (if fr_sg x = 5 then 6 else 4)) bas (upd obj hd (nI j)) t2 n2 (ps_del (x :: r) T).1 (ps_del (x :: r) T).2 := by
  have hx' : ¬ x.1 = true := by rw [hx]; decide
  have hok1 := hok x List.mem_cons_self
  have hkeep : rd_fs (upd sta (r.length + 1) (if fr_sg x = 5 then 6 else 4)) bas r := rd_fs.keep r (fun i hi => ⟨pk_un (by omega), rfl⟩) hfs.2.2
  have hob2 : ob_R (upd obj hd (nI j)) t2 n2 0 (fs_ob (x :: r) ++ [T]) := by
    rw [hhd]
    exact ob_R.push (hob.keep (fun _ _ => rfl) hn ht) hj hT
  have hnil : fr_ob x = x.2.2.1 := by
    unfold fr_ob
    rw [if_neg (by omega), List.append_nil]
  by_cases h1 : x.2.1 = 1
  · have hsg : fr_sg x = 5 := by
      unfold fr_sg
      rw [if_neg hx', if_neg (by omega), if_pos h1]
    have hd1 : ps_del (x :: r) T = ((false, 2, x.2.2.1, T) :: r, none) := by
      simp only [ps_del]
      rw [if_neg hx', if_pos h1]
    have hobe : fs_ob (((false, 2, x.2.2.1, T) : Fr) :: r) = fs_ob (x :: r) ++ [T] := by
      simp only [fs_ob, hnil]
      simp [fr_ob]
    rw [hd1]
    refine ⟨by simp, by simp; omega, fun y hy => ?_, ⟨?_, ?_, hkeep⟩, ?_, ?_, by rw [hobe]; exact hob2, (fun T' hT' => nomatch hT'), htl⟩
    · rcases List.mem_cons.mp hy with e | e
      · rw [e]; exact ⟨(fun z => nomatch z), Nat.le_refl 2, fun _ => hok1.2.2 (by omega)⟩
      · exact hok y (List.mem_cons_of_mem _ e)
    · rw [pk_us, if_pos hsg]
      rfl
    · exact hfs.2.1
    · rw [pk_un (by omega)]; exact h0
    · rw [hobe, List.length_append, ← hhd]
      rfl
  · have hs0 : x.2.1 = 0 := by omega
    have hsg : ¬ fr_sg x = 5 := by
      unfold fr_sg
      rw [if_neg hx', if_pos hs0]
      split <;> omega
    have hd1 : ps_del (x :: r) T = ((false, x.2.1, x.2.2.1 ++ [T], x.2.2.2) :: r, none) := by
      simp only [ps_del]
      rw [if_neg hx', if_neg h1]
    have hobe : fs_ob (((false, x.2.1, x.2.2.1 ++ [T], x.2.2.2) : Fr) :: r) = fs_ob (x :: r) ++ [T] := by
      simp only [fs_ob, hnil]
      simp [fr_ob, hs0]
    rw [hd1]
    refine ⟨by simp, by simp; omega, fun y hy => ?_, ⟨?_, ?_, hkeep⟩, ?_, ?_, by rw [hobe]; exact hob2, (fun T' hT' => nomatch hT'), htl⟩
    · rcases List.mem_cons.mp hy with e | e
      · rw [e]; exact ⟨(fun z => nomatch z), by show x.2.1 ≤ 2; omega, fun z => absurd hs0 z⟩
      · exact hok y (List.mem_cons_of_mem _ e)
    · rw [pk_us, if_neg hsg]
      simp [fr_sg, hs0]
      rfl
    · exact hfs.2.1
    · rw [pk_un (by omega)]; exact h0
    · rw [hobe, List.length_append, ← hhd]
      rfl
