/-! 62.chain: the scanner of the class over the fields of a frame. -/
section MP
variable {S : Nat × (Nat → Int32)} {μ : xM} {g : Nat → Nat → Int} {n : Nat} {Q : xQ} {f : Int → Int} {sz : Int}
theorem tCH.le : ∀ (l : List tK) (p : Int), tCH f sz p l → p + 4 * (l.length : Int) ≤ sz
  | [], p, h => by
    have e : p = sz := h
    simp only [List.length_nil]
    omega
  | x :: l, p, h => by
    have i := tCH.le l _ h.2.2
    have b := h.1.b
    have v := h.2.1.1
    rw [List.length_cons]
    omega
theorem tCH.at : ∀ (l : List tK) (p : Int), tCH f sz p l → 0 ≤ p → ∀ i, i < l.length → p + 2 + 4 * (i : Int) ≤ (l.getD i tD).2.1 ∧ (l.getD i tD).2.1 < (l.getD i tD).2.2 ∧ (l.getD i tD).2.2 < sz ∧ 0 ≤ (l.getD i tD).1 ∧ (l.getD i tD).1 ≤ 9999
  | [], p, h, h0, i, hi => absurd hi (Nat.not_lt_zero _)
  | x :: l, p, h, h0, 0, hi => by
    have i := tCH.le l _ h.2.2
    have b := h.1.b
    have v := h.2.1.1
    show p + 2 + 4 * ((0 : Nat) : Int) ≤ x.2.1 ∧ x.2.1 < x.2.2 ∧ x.2.2 < sz ∧ 0 ≤ x.1 ∧ x.1 ≤ 9999
    omega
  | x :: l, p, h, h0, i + 1, hi => by
    have b := h.1.b
    have v := h.2.1.1
    have := tCH.at l _ h.2.2 (by omega) i (by rw [List.length_cons] at hi; omega)
    show p + 2 + 4 * ((i + 1 : Nat) : Int) ≤ (l.getD i tD).2.1 ∧ (l.getD i tD).2.1 < (l.getD i tD).2.2 ∧ (l.getD i tD).2.2 < sz ∧ 0 ≤ (l.getD i tD).1 ∧ (l.getD i tD).1 ≤ 9999
    omega
def tHop (T : Int) : List tK → Option Int
  | [] => none
  | x :: _ => if x.1 = T then some x.2.1 else none
theorem tCH.op {T p : Int} {l : List tK} (hE : ∀ p, (0 ≤ p ∧ p < sz) ∨ f p = -1) (h1 : 1 ≤ T) (h2 : T ≤ 999) (h : tCH f sz p l) : zop f T p = tHop T l := by
  match l, h with
  | [], h =>
    have e : p = sz := h
    have hp := hE p
    show zop f T p = none
    cases q : zop f T p with
    | none => rfl
    | some r =>
      obtain ⟨z, z1, z2, z3, z4, z5⟩ := zop_tg h1 h2 q
      rw [tdl4, if_neg (by omega)] at z1
      exact absurd (Prod.mk.inj z1).2.symm z2
  | x :: l, h => exact h.1.ev h1 h2
def tval1 (f : Int → Int) (T : Int) (x : tK) : Int := if T = 123 then (if tlet1 f x = 89 then 1 else if tlet1 f x = 78 then 0 else -1) else tnum1 f x
theorem tVL.val {a b t T : Int} (h : tVL f a b) : (zval f T a).1 = tval1 f T (t, a, b) ∧ ((zval f T a).1 ≠ -1 → (zval f T a).2 = b + 1) := by
  unfold zval tval1
  by_cases c : T = 123
  · rw [if_pos c, if_pos c]
    refine ⟨?_, ?_⟩
    · show zyn f a = _
      unfold zyn
      rw [h.chr (t := t)]
    · intro q
      have q : zyn f a ≠ -1 := q
      unfold zyn at q
      rw [h.chr (t := t)] at q
      unfold tlet1 at q
      simp only at q
      show a + 2 = b + 1
      by_cases c : b - a = 1
      · omega
      · rw [if_neg c] at q
        exact absurd rfl q
  · rw [if_neg c, if_neg c]
    exact h.num
theorem zval_vl {q T : Int} (h : (zval f T q).1 ≠ -1) : tVL f q ((zval f T q).2 - 1) := by
  unfold zval at h ⊢
  split at h
  · rename_i c
    rw [if_pos c]
    have h : zyn f q ≠ -1 := h
    unfold zyn at h
    show tVL f q (q + 2 - 1)
    rw [show q + 2 - 1 = q + 1 by omega]
    split at h
    · exact zchr_vl (by assumption) (by omega) (by omega)
    · split at h
      · exact zchr_vl (by assumption) (by omega) (by omega)
      · exact absurd rfl h
  · rename_i c
    rw [if_neg c]
    exact znum_vl h
theorem x_tga : ∀ t ∈ ([48, 49, 50, 52, 53, 65, 68, 70, 71] : List Int), ∀ i : Fin 4, (i.val < (x_fc t).toNat → 1 ≤ x_tg t i.val ∧ x_tg t i.val ≤ 999) ∧ (¬ i.val < (x_fc t).toNat → x_tg t i.val = 0) ∧ (x_tg t i.val = 123 → t = 52 ∧ i.val = 1) ∧ (x_fc t).toNat ≤ 3 := by decide
theorem x_tg123 : x_tg 52 1 = 123 := by decide
theorem zpeer_m {t : Int} (ht : zpeer t) : t ∈ ([48, 49, 50, 52, 53, 65, 68, 70, 71] : List Int) := by
  simp only [List.mem_cons, List.not_mem_nil, or_false]
  exact ht
theorem x_tgb {t : Int} (ht : zpeer t) (i : Nat) (hi : i < (x_fc t).toNat) : 1 ≤ x_tg t i ∧ x_tg t i ≤ 999 := by
  have h3 := (x_tga t (zpeer_m ht) 0).2.2.2
  exact (x_tga t (zpeer_m ht) ⟨i, by omega⟩).1 hi
/-- a scanned frame is a chain of fields -/
theorem zsum_ch {r : Int} (h : zsum f sz r = true) : ∃ l, tCH f sz r l := by
  unfold zsum at h
  split at h
  · cases h
  · rename_i q e
    obtain ⟨h1, h2, h3⟩ := of_decide_eq_true h
    have hne : (znum f q).1 ≠ -1 := by
      rw [h1]
      unfold zsmb
      omega
    have v := znum_vl hne
    exact ⟨[(10, q, (znum f q).2 - 1)], zop_tg (by omega) (by omega) e, v, by show (znum f q).2 - 1 + 1 = sz; omega⟩
theorem zown_ch {t : Int} (ht : zpeer t) : ∀ (d i : Nat) (q : Int) (u w : Nat → Int) (r : Int), i + d ≤ (x_fc t).toNat → zown f t d i q u = some (w, r) → (∃ l, tCH f sz r l) → ∃ l, tCH f sz q l
  | 0, i, q, u, w, r, hd, h, hl => by
    rw [zown] at h
    cases h
    exact hl
  | d + 1, i, q, u, w, r, hd, h, hl => by
    have hb := x_tgb ht i (by omega)
    rw [zown] at h
    split at h
    · split at h
      · cases h
        exact hl
      · cases h
    · rename_i q' e
      split at h
      · cases h
      · rename_i hne
        obtain ⟨l, hc⟩ := zown_ch ht d (i + 1) _ _ _ _ (by omega) h hl
        exact ⟨(x_tg t i, q', (zval f (x_tg t i) q').2 - 1) :: l, zop_tg hb.1 hb.2 e, zval_vl hne, by
          show tCH f sz ((zval f (x_tg t i) q').2 - 1 + 1) l
          rw [show (zval f (x_tg t i) q').2 - 1 + 1 = (zval f (x_tg t i) q').2 by omega]
          exact hc⟩
theorem zhead_ch {t m d p q : Int} (h : zhead f p = some (t, m, d, q)) (hl : ∃ l, tCH f sz q l) : ∃ l, tCH f sz p l := by
  obtain ⟨l, hl⟩ := hl
  unfold zhead at h
  split at h
  · cases h
  · rename_i q1 e1
    split at h
    · rename_i hp
      have v1 := zchr_vl (f := f) (q := q1) rfl (by omega) (by omega)
      split at h
      · cases h
      · rename_i r e2
        split at h
        · split at h
          · cases h
          · rename_i hne
            cases h
            have v2 := znum_vl hne
            exact ⟨(35, q1, q1 + 1) :: (34, r, (znum f r).2 - 1) :: l, zop_tg (by omega) (by omega) e1, v1, by rw [show q1 + 1 + 1 = q1 + 2 by omega]; exact zop_tg (by omega) (by omega) e2, v2, by rw [show (znum f r).2 - 1 + 1 = (znum f r).2 by omega]; exact hl⟩
        · rename_i w e3
          split at h
          · cases h
          · rename_i hne
            cases h
            have v2 := znum_vl (f := f) (q := r) (fun z => hne (Or.inl z))
            have v3 : tVL f w (w + 1) := zchr_vl (c := 89) (Decidable.of_not_not (fun z => hne (Or.inr z))) (by omega) (by omega)
            exact ⟨(35, q1, q1 + 1) :: (34, r, (znum f r).2 - 1) :: (43, w, w + 1) :: l, zop_tg (by omega) (by omega) e1, v1, by rw [show q1 + 1 + 1 = q1 + 2 by omega]; exact zop_tg (by omega) (by omega) e2, v2, by rw [show (znum f r).2 - 1 + 1 = (znum f r).2 by omega]; exact zop_tg (by omega) (by omega) e3, v3, by rw [show w + 1 + 1 = w + 2 by omega]; exact hl⟩
    · cases h
theorem zscan_ch {u : Nat → Int} {x : Int × Int × Int × (Nat → Int)} (h : zscan f sz u = some x) : ∃ l, tCH f sz 0 l := by
  unfold zscan at h
  split at h
  · cases h
  · rename_i q1 e1
    split at h
    · rename_i h1
      split at h
      · cases h
      · rename_i r e2
        have b1 := zop_b e1
        have b2 := zop_b e2
        have zb := znum_b (f := f) r (by omega)
        split at h
        · cases h
        · rename_i hne
          unfold zrest at h
          split at h
          · cases h
          · rename_i t' m' d' q' e3
            split at h
            · cases h
            · rename_i w' r' e4
              split at h
              · rename_i hs
                have hp := (zhead_b (by omega) e3).1
                obtain ⟨l, hl⟩ := zhead_ch e3 (zown_ch hp _ _ _ _ _ _ (by omega) e4 (zsum_ch hs.2))
                exact ⟨(8, q1, q1 + 1) :: (9, r, (znum f r).2 - 1) :: l, zop_tg (by omega) (by omega) e1, zchr_vl h1 (by omega) (by omega), by rw [show q1 + 1 + 1 = q1 + 2 by omega]; exact zop_tg (by omega) (by omega) e2, znum_vl hne, by rw [show (znum f r).2 - 1 + 1 = (znum f r).2 by omega]; exact hl⟩
              · cases h
    · cases h
/-- the own fields over the chain -/
def town (f : Int → Int) (t : Int) : Nat → Nat → List tK → (Nat → Int) → Option ((Nat → Int) × List tK)
  | 0, _, l, u => some (u, l)
  | d + 1, i, l, u =>
    match l with
    | [] => if t = 48 then some (zup u i (-1), []) else none
    | x :: l' => if x.1 = x_tg t i then (if tval1 f (x_tg t i) x = -1 then none else town f t d (i + 1) l' (zup u i (tval1 f (x_tg t i) x))) else if t = 48 then some (zup u i (-1), x :: l') else none
theorem town_n {t : Int} {d i : Nat} {u : Nat → Int} : town f t (d + 1) i [] u = if t = 48 then some (zup u i (-1), []) else none := rfl
theorem town_c {t : Int} {d i : Nat} {u : Nat → Int} {x : tK} {l : List tK} : town f t (d + 1) i (x :: l) u = if x.1 = x_tg t i then (if tval1 f (x_tg t i) x = -1 then none else town f t d (i + 1) l (zup u i (tval1 f (x_tg t i) x))) else if t = 48 then some (zup u i (-1), x :: l) else none := rfl
theorem town_ev {t : Int} (hE : ∀ p, (0 ≤ p ∧ p < sz) ∨ f p = -1) (ht : zpeer t) : ∀ (d i : Nat) (p : Int) (l : List tK) (u : Nat → Int), i + d ≤ (x_fc t).toNat → tCH f sz p l → (town f t d i l u = none ∧ zown f t d i p u = none) ∨ ∃ w l' r, town f t d i l u = some (w, l') ∧ zown f t d i p u = some (w, r) ∧ tCH f sz r l'
  | 0, i, p, l, u, hd, h => Or.inr ⟨u, l, p, rfl, rfl, h⟩
  | d + 1, i, p, l, u, hd, h => by
    have hb := x_tgb ht i (by omega)
    have e := h.op hE hb.1 hb.2
    rw [zown]
    match l, h, e with
    | [], h, e =>
      rw [e, town_n]
      rw [show tHop (x_tg t i) [] = none from rfl]
      simp only
      by_cases c : t = 48
      · rw [if_pos c, if_pos c]
        exact Or.inr ⟨_, _, p, rfl, rfl, h⟩
      · rw [if_neg c, if_neg c]
        exact Or.inl ⟨rfl, rfl⟩
    | x :: l', h, e =>
      rw [e, town_c, show tHop (x_tg t i) (x :: l') = if x.1 = x_tg t i then some x.2.1 else none from rfl]
      by_cases c1 : x.1 = x_tg t i
      · rw [if_pos c1, if_pos c1]
        have ⟨v1, v2⟩ := h.2.1.val (t := x.1) (T := x_tg t i)
        simp only
        rw [v1]
        by_cases c2 : tval1 f (x_tg t i) x = -1
        · rw [if_pos c2, if_pos c2]
          exact Or.inl ⟨rfl, rfl⟩
        · rw [if_neg c2, if_neg c2, v2 (by rw [v1]; exact c2)]
          exact town_ev hE ht d (i + 1) _ l' _ (by omega) h.2.2
      · rw [if_neg c1, if_neg c1]
        simp only
        by_cases c : t = 48
        · rw [if_pos c, if_pos c]
          exact Or.inr ⟨_, _, p, rfl, rfl, h⟩
        · rw [if_neg c, if_neg c]
          exact Or.inl ⟨rfl, rfl⟩
end MP
