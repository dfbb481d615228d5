/-! 66.good: the fields of a right frame, by their places. -/
section MP
variable {S : Nat × (Nat → Int32)} {μ : xM} {g : Nat → Nat → Int} {n : Nat} {Q : xQ} {f : Int → Int} {sz : Int} {l : List tK} {t : Int}
theorem town_suf : ∀ (d i : Nat) (l : List tK) (u w : Nat → Int) (l' : List tK), town f t d i l u = some (w, l') → ∃ l1, l = l1 ++ l'
  | 0, i, l, u, w, l', h => by
    cases (show some (u, l) = some (w, l') from h)
    exact ⟨[], rfl⟩
  | d + 1, i, [], u, w, l', h => by
    rw [town_n] at h
    split at h
    · cases h
      exact ⟨[], rfl⟩
    · cases h
  | d + 1, i, x :: l, u, w, l', h => by
    rw [town_c] at h
    split at h
    · split at h
      · cases h
      · obtain ⟨l1, e⟩ := town_suf d (i + 1) l _ _ _ h
        exact ⟨x :: l1, by rw [e]; rfl⟩
    · split at h
      · cases h
        exact ⟨[], rfl⟩
      · cases h
theorem tlast {p : List tK} {x : tK} : (p ++ [x]).getD ((p ++ [x]).length - 1) tD = x := by
  rw [ygd_app, ylen_app, if_neg (by omega), if_pos (by omega)]
theorem tOK.i {m d : Int} {u w : Nat → Int} (h : tOK f l u t m d w) : tcl f l ∧ tlet f l 0 8 = 70 ∧ tlet f l 2 35 = t ∧ zpeer t ∧ tnum f l 3 34 = m ∧ 0 ≤ m ∧ ((d = 1 ∧ (l.getD 4 tD).1 = 43 ∧ tlet f l 4 43 = 89 ∧ ∃ x, town f t (x_fc t).toNat 0 (l.drop 5) u = some (w, [x])) ∨ (d = 0 ∧ (l.getD 4 tD).1 ≠ 43 ∧ ∃ x, town f t (x_fc t).toNat 0 (l.drop 4) u = some (w, [x]))) := by
  obtain ⟨x0, x1, l2, l5, x, el, ⟨a1, a2⟩, ⟨b1, b2⟩, ⟨x2, x3, l4, el2, ⟨c1, c2, c3⟩, ⟨d1, d2, d3⟩, hd⟩, ho, k1, k2, k3⟩ := h
  obtain ⟨l6, e6⟩ := town_suf _ _ _ _ _ _ ho
  have hz : 0 ≤ zsmb f (x.2.1 - 3).toNat := by unfold zsmb; omega
  have mb := tnum1_b (f := f) x3
  have fin : ∀ p : List tK, l = p ++ [x] → 5 ≤ l.length → tcl f l := by
    intro p hp h5
    have e := tlast (p := p) (x := x)
    rw [← hp] at e
    have en : tnum f l (l.length - 1) 10 = tnum1 f x := by
      unfold tnum
      rw [e, if_pos ⟨by omega, k1⟩]
    have e1 : l.getD 1 tD = x1 := by rw [el]; rfl
    have en1 : tnum f l 1 9 = tnum1 f x1 := by
      unfold tnum
      rw [e1, if_pos ⟨by omega, b1⟩]
    unfold tcl
    rw [e, en, en1, e1]
    exact ⟨h5, k1, k2, by omega, k3, by omega⟩
  have e0 : l.getD 0 tD = x0 := by rw [el]; rfl
  have e2 : l.getD 2 tD = x2 := by rw [el, el2]; rfl
  have e3 : l.getD 3 tD = x3 := by rw [el, el2]; rfl
  rcases hd with ⟨q1, x4, q2, q3, q4⟩ | ⟨q1, q2, q3⟩
  · have hl : l = x0 :: x1 :: x2 :: x3 :: x4 :: l5 := by rw [el, el2, q2]
    have h5 : 5 ≤ l.length := by rw [hl]; simp only [List.length_cons]; omega
    have e4 : l.getD 4 tD = x4 := by rw [hl]; rfl
    have ed : l.drop 5 = l5 := by rw [hl]; rfl
    refine ⟨fin (x0 :: x1 :: x2 :: x3 :: x4 :: l6) (by rw [hl, e6]; rfl) h5, ?_, ?_, c3, ?_, by omega, Or.inl ⟨q1, by rw [e4]; exact q3, ?_, x, by rw [ed]; exact ho⟩⟩
    · unfold tlet
      rw [e0, if_pos ⟨by omega, a1⟩]
      exact a2
    · unfold tlet
      rw [e2, if_pos ⟨by omega, c1⟩]
      exact c2
    · unfold tnum
      rw [e3, if_pos ⟨by omega, d1⟩]
      exact d2
    · unfold tlet
      rw [e4, if_pos ⟨by omega, q3⟩]
      exact q4
  · have hl : l = (x0 :: x1 :: x2 :: x3 :: l6) ++ [x] := by rw [el, el2, q2, e6]; rfl
    have h5 : 5 ≤ l.length := by rw [hl, ylen_app]; simp only [List.length_cons]; omega
    have ed : l.drop 4 = l5 := by rw [el, el2, q2]; rfl
    have e4 : (l.getD 4 tD).1 ≠ 43 := by
      match l4, q3, el2 with
      | [], q3, el2 =>
        rw [el, el2] at h5
        simp only [List.length_cons, List.length_nil] at h5
        omega
      | x4 :: l7, q3, el2 =>
        rw [el, el2]
        exact q3 x4 l7 rfl
    refine ⟨fin _ hl h5, ?_, ?_, c3, ?_, by omega, Or.inr ⟨q1, e4, x, by rw [ed]; exact ho⟩⟩
    · unfold tlet
      rw [e0, if_pos ⟨by omega, a1⟩]
      exact a2
    · unfold tlet
      rw [e2, if_pos ⟨by omega, c1⟩]
      exact c2
    · unfold tnum
      rw [e3, if_pos ⟨by omega, d1⟩]
      exact d2
theorem tlet_p {i : Nat} {T : Int} (h : 0 ≤ tlet f l i T) : i < l.length ∧ (l.getD i tD).1 = T ∧ tlet f l i T = tlet1 f (l.getD i tD) := by
  unfold tlet at h ⊢
  split at h
  · rename_i c
    rw [if_pos c]
    exact ⟨c.1, c.2, rfl⟩
  · omega
theorem tnum_p {i : Nat} {T : Int} (h : 0 ≤ tnum f l i T) : i < l.length ∧ (l.getD i tD).1 = T ∧ tnum f l i T = tnum1 f (l.getD i tD) := by
  unfold tnum at h ⊢
  split at h
  · rename_i c
    rw [if_pos c]
    exact ⟨c.1, c.2, rfl⟩
  · omega
theorem tOK.m {d : Int} {u w : Nat → Int} {x : tK} (hch : tCH f sz 0 l) (hc : tcl f l) (h0 : tlet f l 0 8 = 70) (h2 : zpeer (tlet f l 2 35)) (h3 : 0 ≤ tnum f l 3 34) (hd : (d = 1 ∧ (l.getD 4 tD).1 = 43 ∧ tlet f l 4 43 = 89 ∧ town f (tlet f l 2 35) (x_fc (tlet f l 2 35)).toNat 0 (l.drop 5) u = some (w, [x])) ∨ (d = 0 ∧ (l.getD 4 tD).1 ≠ 43 ∧ town f (tlet f l 2 35) (x_fc (tlet f l 2 35)).toNat 0 (l.drop 4) u = some (w, [x]))) : tOK f l u (tlet f l 2 35) (tnum f l 3 34) d w := by
  obtain ⟨h5, k1, k2, k3, k4, k5⟩ := hc
  match l, h5 with
  | x0 :: x1 :: x2 :: x3 :: x4 :: l5, h5 =>
    have p0 := tlet_p (f := f) (l := x0 :: x1 :: x2 :: x3 :: x4 :: l5) (i := 0) (T := 8) (by omega)
    have p2 := tlet_p (f := f) (l := x0 :: x1 :: x2 :: x3 :: x4 :: l5) (i := 2) (T := 35) (by omega)
    have p3 := tnum_p (f := f) (l := x0 :: x1 :: x2 :: x3 :: x4 :: l5) (i := 3) (T := 34) (by omega)
    have hpos : 0 ≤ tnum f (x0 :: x1 :: x2 :: x3 :: x4 :: l5) 1 9 := by
      have o := hch.2.2.2.2.at _ _ (by have := hch.1.b; have := hch.2.1.1; have := hch.2.2.1.b; have := hch.2.2.2.1.1; omega) (l5.length + 2) (by simp only [List.length_cons]; omega)
      rw [k5]
      have e1 : (x0 :: x1 :: x2 :: x3 :: x4 :: l5).getD ((x0 :: x1 :: x2 :: x3 :: x4 :: l5).length - 1) tD = (x2 :: x3 :: x4 :: l5).getD (l5.length + 2) tD := rfl
      have e2 : (x0 :: x1 :: x2 :: x3 :: x4 :: l5).getD 1 tD = x1 := rfl
      rw [e1, e2]
      omega
    have p1 := tnum_p hpos
    have pl := tnum_p k3
    have key : ∀ (L : List tK), town f (tlet f (x0 :: x1 :: x2 :: x3 :: x4 :: l5) 2 35) (x_fc (tlet f (x0 :: x1 :: x2 :: x3 :: x4 :: l5) 2 35)).toNat 0 L u = some (w, [x]) → (∃ p, x0 :: x1 :: x2 :: x3 :: x4 :: l5 = p ++ L) → (x0 :: x1 :: x2 :: x3 :: x4 :: l5).getD ((x0 :: x1 :: x2 :: x3 :: x4 :: l5).length - 1) tD = x := by
      intro L hL ⟨p, hp⟩
      obtain ⟨l6, e6⟩ := town_suf _ _ _ _ _ _ hL
      rw [hp, e6, ← List.append_assoc]
      exact tlast
    rcases hd with ⟨q1, q2, q3, q4⟩ | ⟨q1, q2, q4⟩
    · have ex := key l5 q4 ⟨[x0, x1, x2, x3, x4], rfl⟩
      have p4 := tlet_p (f := f) (l := x0 :: x1 :: x2 :: x3 :: x4 :: l5) (i := 4) (T := 43) (by omega)
      rw [ex] at k1 k2 k4 k5 pl
      exact ⟨x0, x1, x2 :: x3 :: x4 :: l5, l5, x, rfl, ⟨p0.2.1, p0.2.2.symm.trans h0⟩, ⟨p1.2.1, by rw [← show tnum f (x0 :: x1 :: x2 :: x3 :: x4 :: l5) 1 9 = tnum1 f x1 from p1.2.2, k5]; show x.2.1 - 3 - x1.2.2 - 1 = x.2.1 - 3 - (x1.2.2 + 1); omega⟩, ⟨x2, x3, x4 :: l5, rfl, ⟨p2.2.1, p2.2.2.symm, h2⟩, ⟨p3.2.1, p3.2.2.symm, by omega⟩, Or.inl ⟨q1, x4, rfl, q2, p4.2.2.symm.trans q3⟩⟩, q4, k1, k2, pl.2.2.symm.trans k4⟩
    · have ex := key (x4 :: l5) q4 ⟨[x0, x1, x2, x3], rfl⟩
      rw [ex] at k1 k2 k4 k5 pl
      exact ⟨x0, x1, x2 :: x3 :: x4 :: l5, x4 :: l5, x, rfl, ⟨p0.2.1, p0.2.2.symm.trans h0⟩, ⟨p1.2.1, by rw [← show tnum f (x0 :: x1 :: x2 :: x3 :: x4 :: l5) 1 9 = tnum1 f x1 from p1.2.2, k5]; show x.2.1 - 3 - x1.2.2 - 1 = x.2.1 - 3 - (x1.2.2 + 1); omega⟩, ⟨x2, x3, x4 :: l5, rfl, ⟨p2.2.1, p2.2.2.symm, h2⟩, ⟨p3.2.1, p3.2.2.symm, by omega⟩, Or.inr ⟨q1, rfl, fun y l7 e => by cases e; exact q2⟩⟩, q4, k1, k2, pl.2.2.symm.trans k4⟩
end MP
