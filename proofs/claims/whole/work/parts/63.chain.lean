/-! 63.chain: the scan of the class told by the fields. -/
section MP
variable {S : Nat × (Nat → Int32)} {μ : xM} {g : Nat → Nat → Int} {n : Nat} {Q : xQ} {f : Int → Int} {sz : Int}
theorem tCH.opS {T p q : Int} {l : List tK} (hE : ∀ p, (0 ≤ p ∧ p < sz) ∨ f p = -1) (h1 : 1 ≤ T) (h2 : T ≤ 999) (h : tCH f sz p l) (e : zop f T p = some q) : ∃ x l', l = x :: l' ∧ x.1 = T ∧ x.2.1 = q ∧ tVL f x.2.1 x.2.2 ∧ tCH f sz (x.2.2 + 1) l' := by
  rw [h.op hE h1 h2] at e
  match l, h, e with
  | [], h, e => cases e
  | x :: l', h, e =>
    rw [show tHop T (x :: l') = if x.1 = T then some x.2.1 else none from rfl] at e
    split at e
    · cases e
      exact ⟨x, l', rfl, by assumption, rfl, h.2.1, h.2.2⟩
    · cases e
theorem tCH.opN {T p : Int} {l : List tK} (hE : ∀ p, (0 ≤ p ∧ p < sz) ∨ f p = -1) (h1 : 1 ≤ T) (h2 : T ≤ 999) (h : tCH f sz p l) (e : zop f T p = none) : ∀ x l', l = x :: l' → x.1 ≠ T := by
  intro x l' el c
  rw [h.op hE h1 h2, el, show tHop T (x :: l') = if x.1 = T then some x.2.1 else none from rfl, if_pos c] at e
  cases e
theorem tVL.chS {x : tK} {q c : Int} (hx : x.2.1 = q) (h : tVL f x.2.1 x.2.2) (e : zchr f q = c) (hc : 33 ≤ c) : tlet1 f x = c ∧ x.2.2 + 1 = q + 2 := by
  have h1 : zchr f x.2.1 = tlet1 f x := h.chr (t := x.1)
  rw [hx, e] at h1
  have h2 : tlet1 f x = c := h1.symm
  refine ⟨h2, ?_⟩
  unfold tlet1 at h2
  split at h2 <;> omega
theorem tlet1_w {x : tK} (h : 0 ≤ tlet1 f x) : x.2.2 = x.2.1 + 1 := by
  unfold tlet1 at h
  split at h <;> omega
theorem tVL.nuS {x : tK} {q : Int} (hx : x.2.1 = q) (h : tVL f x.2.1 x.2.2) : (znum f q).1 = tnum1 f x ∧ ((znum f q).1 ≠ -1 → (znum f q).2 = x.2.2 + 1) := by
  rw [← hx]
  exact h.num (t := x.1)
theorem zsum_ev {r : Int} {l : List tK} (hE : ∀ p, (0 ≤ p ∧ p < sz) ∨ f p = -1) (h : tCH f sz r l) : zsum f sz r = true ↔ ∃ x, l = [x] ∧ x.1 = 10 ∧ x.2.2 - x.2.1 = 3 ∧ tnum1 f x = zsmb f r.toNat ∧ r = x.2.1 - 3 := by
  have hle := h.le
  unfold zsum
  rw [if_pos (show r ≤ sz by omega), h.op hE (by omega) (by omega)]
  match l, h with
  | [], h => exact ⟨fun z => (by cases z), fun ⟨x, z, _⟩ => (by cases z)⟩
  | x :: l', h =>
    rw [show tHop 10 (x :: l') = if x.1 = 10 then some x.2.1 else none from rfl]
    by_cases c : x.1 = 10
    · rw [if_pos c]
      simp only [decide_eq_true_eq]
      have ⟨v1, v2⟩ := h.2.1.nuS rfl
      have hz : 0 ≤ zsmb f r.toNat := by unfold zsmb; omega
      have hg := h.1
      rw [c] at hg
      have hg := hg.op (by omega) (by omega)
      rw [zop2 (by omega) (by omega)] at hg
      have e3 : x.2.1 = r + 3 := by
        split at hg
        · exact (Option.some.inj hg).symm
        · cases hg
      constructor
      · intro ⟨a1, a2, a3⟩
        have v2 := v2 (by omega)
        have hl := h.2.2.le
        have : l' = [] := List.length_eq_zero_iff.mp (by omega)
        rw [this]
        exact ⟨x, rfl, c, by omega, by omega, by omega⟩
      · intro ⟨y, a1, a2, a3, a4, a5⟩
        cases a1
        have v2 := v2 (by omega)
        have : x.2.2 + 1 = sz := h.2.2
        exact ⟨by omega, by omega, by omega⟩
    · rw [if_neg c]
      refine ⟨fun z => (by cases z), fun ⟨y, a1, a2, _⟩ => ?_⟩
      cases a1
      exact absurd a2 c
theorem zown_ge {t : Int} : ∀ (d i : Nat) (q : Int) (u w : Nat → Int) (r : Int), 0 ≤ q → zown f t d i q u = some (w, r) → q ≤ r
  | 0, i, q, u, w, r, h0, h => by
    rw [zown] at h
    cases h
    exact Int.le_refl _
  | d + 1, i, q, u, w, r, h0, h => by
    rw [zown] at h
    split at h
    · split at h
      · cases h
        exact Int.le_refl _
      · cases h
    · rename_i q' e
      split at h
      · cases h
      · have b := zop_b e
        have z := zval_b (f := f) (t := x_tg t i) q' (by omega)
        have := zown_ge d (i + 1) _ _ _ _ (by omega) h
        omega
/-- the head over the chain -/
def tHD (f : Int → Int) (l : List tK) (t m d : Int) (l5 : List tK) : Prop := ∃ x2 x3 l4, l = x2 :: x3 :: l4 ∧ (x2.1 = 35 ∧ tlet1 f x2 = t ∧ zpeer t) ∧ (x3.1 = 34 ∧ tnum1 f x3 = m ∧ m ≠ -1) ∧ ((d = 1 ∧ ∃ x4, l4 = x4 :: l5 ∧ x4.1 = 43 ∧ tlet1 f x4 = 89) ∨ (d = 0 ∧ l4 = l5 ∧ ∀ x4 l6, l4 = x4 :: l6 → x4.1 ≠ 43))
theorem zhead_e1 {p t m d q : Int} {l : List tK} (hE : ∀ p, (0 ≤ p ∧ p < sz) ∨ f p = -1) (h : tCH f sz p l) (hz : zhead f p = some (t, m, d, q)) : ∃ l5, tHD f l t m d l5 ∧ tCH f sz q l5 := by
  unfold zhead at hz
  split at hz
  · cases hz
  · rename_i q1 e1
    obtain ⟨x2, l3, el, a1, a2, a3, a4⟩ := h.opS hE (by omega) (by omega) e1
    split at hz
    · rename_i hp
      obtain ⟨b1, b2⟩ := a3.chS a2 rfl (by omega)
      rw [b2] at a4
      split at hz
      · cases hz
      · rename_i r e2
        obtain ⟨x3, l4, el2, c1, c2, c3, c4⟩ := a4.opS hE (by omega) (by omega) e2
        obtain ⟨v1, v2⟩ := c3.nuS c2
        split at hz
        · rename_i e3
          split at hz
          · cases hz
          · rename_i hne
            cases hz
            rw [v2 hne] at e3 ⊢
            refine ⟨l4, ⟨x2, x3, l4, by rw [el, el2], ⟨a1, b1, hp⟩, ⟨c1, v1.symm, hne⟩, Or.inr ⟨rfl, rfl, c4.opN hE (by omega) (by omega) e3⟩⟩, c4⟩
        · rename_i w e3
          split at hz
          · cases hz
          · rename_i hne
            cases hz
            have hne1 : (znum f r).1 ≠ -1 := fun z => hne (Or.inl z)
            have hne2 : zchr f w = 89 := Decidable.of_not_not (fun z => hne (Or.inr z))
            rw [v2 hne1] at e3
            obtain ⟨x4, l5, el3, d1, d2, d3, d4⟩ := c4.opS hE (by omega) (by omega) e3
            obtain ⟨f1, f2⟩ := d3.chS d2 hne2 (by omega)
            rw [f2] at d4
            exact ⟨l5, ⟨x2, x3, l4, by rw [el, el2], ⟨a1, b1, hp⟩, ⟨c1, v1.symm, hne1⟩, Or.inl ⟨rfl, x4, el3, d1, f1⟩⟩, d4⟩
    · cases hz
theorem zhead_e2 {p t m d : Int} {l l5 : List tK} (hE : ∀ p, (0 ≤ p ∧ p < sz) ∨ f p = -1) (h : tCH f sz p l) (hh : tHD f l t m d l5) : ∃ q, zhead f p = some (t, m, d, q) ∧ tCH f sz q l5 := by
  obtain ⟨x2, x3, l4, el, ⟨a1, a2, a3⟩, ⟨b1, b2, b3⟩, hd⟩ := hh
  rw [el] at h
  obtain ⟨h1, h2, h3, h4, h5⟩ := h
  rw [a1] at h1
  rw [b1] at h3
  have w2 := tlet1_w (f := f) (x := x2) (by clear hd; omega)
  have ch := h2.chr (t := x2.1)
  have ch : zchr f x2.2.1 = t := ch.trans a2
  obtain ⟨v1, v2⟩ := h4.nuS rfl
  have v1 := v1.trans b2
  have v2 := v2 (by rw [v1]; exact b3)
  unfold zhead
  rw [h1.op (by omega) (by omega)]
  simp only
  rw [ch, if_pos a3, show x2.2.1 + 2 = x2.2.2 + 1 by omega, h3.op (by omega) (by omega)]
  simp only
  rw [v1, v2]
  rcases hd with ⟨d1, x4, d2, d3, d4⟩ | ⟨d1, d2, d3⟩
  · rw [d2] at h5
    obtain ⟨k1, k2, k3⟩ := h5
    rw [d3] at k1
    have w4 := tlet1_w (f := f) (x := x4) (by omega)
    have ch4 : zchr f x4.2.1 = 89 := (k2.chr (t := x4.1)).trans d4
    rw [k1.op (by omega) (by omega)]
    simp only
    rw [if_neg (fun z => z.elim b3 (fun z => z ch4)), d1]
    exact ⟨_, rfl, by rw [show x4.2.1 + 2 = x4.2.2 + 1 by omega]; exact k3⟩
  · have e : zop f 43 (x3.2.2 + 1) = none := by
      rw [h5.op hE (by omega) (by omega)]
      match l4, d3 with
      | [], d3 => rfl
      | x4 :: l6, d3 => exact if_neg (d3 x4 l6 rfl)
    rw [e]
    simp only
    rw [if_neg b3, d1]
    exact ⟨_, rfl, by rw [← d2]; exact h5⟩
def tOK (f : Int → Int) (l : List tK) (u : Nat → Int) (t m d : Int) (w : Nat → Int) : Prop := ∃ x0 x1 l2 l5 x, l = x0 :: x1 :: l2 ∧ (x0.1 = 8 ∧ tlet1 f x0 = 70) ∧ (x1.1 = 9 ∧ tnum1 f x1 = x.2.1 - 3 - (x1.2.2 + 1)) ∧ tHD f l2 t m d l5 ∧ town f t (x_fc t).toNat 0 l5 u = some (w, [x]) ∧ x.1 = 10 ∧ x.2.2 - x.2.1 = 3 ∧ tnum1 f x = zsmb f (x.2.1 - 3).toNat
theorem tHD.p {t m d : Int} {l l5 : List tK} (h : tHD f l t m d l5) : zpeer t := by
  obtain ⟨x2, x3, l4, el, ⟨a1, a2, a3⟩, _⟩ := h
  exact a3
theorem zscan_e1 {t m d : Int} {u w : Nat → Int} {l : List tK} (hE : ∀ p, (0 ≤ p ∧ p < sz) ∨ f p = -1) (h : tCH f sz 0 l) (hz : zscan f sz u = some (t, m, d, w)) : tOK f l u t m d w := by
  unfold zscan at hz
  split at hz
  · cases hz
  · rename_i q1 e1
    obtain ⟨x0, l1, el, a1, a2, a3, a4⟩ := h.opS hE (by omega) (by omega) e1
    split at hz
    · rename_i hp
      obtain ⟨b1, b2⟩ := a3.chS a2 hp (by omega)
      rw [b2] at a4
      split at hz
      · cases hz
      · rename_i r e2
        obtain ⟨x1, l2, el2, c1, c2, c3, c4⟩ := a4.opS hE (by omega) (by omega) e2
        obtain ⟨v1, v2⟩ := c3.nuS c2
        split at hz
        · cases hz
        · rename_i hne
          rw [v2 hne] at hz
          unfold zrest at hz
          split at hz
          · cases hz
          · rename_i t' m' d' q' e3
            obtain ⟨l5, k1, k2⟩ := zhead_e1 hE c4 e3
            split at hz
            · cases hz
            · rename_i w' r' e4
              split at hz
              · rename_i hs
                cases hz
                rcases town_ev hE k1.p (x_fc t).toNat 0 _ _ u (by omega) k2 with ⟨z1, z2⟩ | ⟨w2, l6, r2, z1, z2, z3⟩
                · rw [e4] at z2
                  cases z2
                · rw [e4] at z2
                  cases z2
                  obtain ⟨x, y1, y2, y3, y4, y5⟩ := (zsum_ev hE z3).mp hs.2
                  rw [y1] at z1
                  exact ⟨x0, x1, l2, l5, x, by rw [el, el2], ⟨a1, b1⟩, ⟨c1, by omega⟩, k1, z1, y2, y3, by rw [← y5]; exact y4⟩
              · cases hz
    · cases hz
theorem zscan_e2 {t m d : Int} {u w : Nat → Int} {l : List tK} (hE : ∀ p, (0 ≤ p ∧ p < sz) ∨ f p = -1) (h : tCH f sz 0 l) (hz : tOK f l u t m d w) : zscan f sz u = some (t, m, d, w) := by
  obtain ⟨x0, x1, l2, l5, x, el, ⟨a1, a2⟩, ⟨b1, b2⟩, hh, ho, k1, k2, k3⟩ := hz
  rw [el] at h
  obtain ⟨h1, h2, h3, h4, h5⟩ := h
  rw [a1] at h1
  rw [b1] at h3
  have w0 := tlet1_w (f := f) (x := x0) (by omega)
  have ch : zchr f x0.2.1 = 70 := (h2.chr (t := x0.1)).trans a2
  obtain ⟨q, e3, hq⟩ := zhead_e2 hE h5 hh
  rcases town_ev hE hh.p (x_fc t).toNat 0 _ _ u (by omega) hq with ⟨z1, z2⟩ | ⟨w2, l6, r2, z1, z2, z3⟩
  · rw [ho] at z1
    cases z1
  · rw [ho] at z1
    cases z1
    obtain ⟨v1, v2⟩ := h4.nuS rfl
    have hx : r2 = x.2.1 - 3 := by
      have hg := z3.1
      rw [k1] at hg
      have hg := hg.op (by omega) (by omega)
      rw [zop2 (by omega) (by omega)] at hg
      split at hg
      · have := Option.some.inj hg
        omega
      · cases hg
    have hs := (zsum_ev hE z3).mpr ⟨x, rfl, k1, k2, by rw [hx]; exact k3, hx⟩
    have hne : (znum f x1.2.1).1 ≠ -1 := by
      rw [v1, b2]
      have l1 : x1.2.2 + 1 ≤ q := by
        obtain ⟨x2, x3, l4, el, _⟩ := hh
        have hb := zhead_b (f := f) (p := x1.2.2 + 1) (by have := h1.b; have := h2.1; have := h3.b; have := h4.1; omega) e3
        omega
      have l2 : q ≤ r2 := by
        have hq0 : 0 ≤ q := by have := h1.b; have := h2.1; have := h3.b; have := h4.1; omega
        have zz := zown_ge _ _ _ _ _ _ hq0 z2
        exact zz
      omega
    unfold zscan
    rw [h1.op (by omega) (by omega)]
    simp only
    rw [if_pos ch, show x0.2.1 + 2 = x0.2.2 + 1 by omega, h3.op (by omega) (by omega)]
    simp only
    rw [if_neg hne, v2 hne]
    unfold zrest
    rw [e3]
    simp only
    rw [z2]
    simp only
    rw [if_pos ⟨by omega, hs⟩]
end MP
