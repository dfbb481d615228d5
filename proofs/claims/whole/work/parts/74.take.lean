/-! 74.take: the reference's take. -/
section MT
variable {S : Nat × (Nat → Int32)} {μ : xM} {g : Nat → Nat → Int} {n : Nat} {Q : xQ} {y : yS} {N L T M R U : Int} {t m d a b c : Int} {f : Int → Int} {sz : Int} {bs : List Int}
theorem c118b (hC : rC g y) (b3 : 0 ≤ y.1 3 ∧ y.1 3 ≤ 2000000) (b5 : 0 ≤ y.1 5 ∧ y.1 5 ≤ 2000000) (b6 : y.1 6 = 0 ∨ y.1 6 = 1) (h : ∀ g', rC g' (ysettle y) → rF g g' → Q (.inl none) (x_vm g') n) : x_V S 118 0 [some (.ref 100)] [] (x_vm g) n Q := by
  obtain ⟨k20, k21, k26, k19, k22, k36, k23, k24, k25⟩ := hC.1.at
  unfold ysettle at h
  refine s118_0 rfl ?_
  refine s118_1 rfl ?_
  refine s118_2 (by first | assumption | rfl) (by first | assumption | (exact hpo _) | rfl | decide) (by first | assumption | decide | omega) ?_
  refine s118_5 rfl ?_
  refine s118_6 (by first | assumption | rfl) (by first | assumption | (exact hpo _) | rfl | decide) (by first | assumption | decide | omega) ?_
  refine s118_9 ⟨by omega, by omega⟩ ⟨by omega, by omega⟩ (fun h9 => ?_) (fun h9 => ?_)
  · refine s118_19 ?_
    refine s118_20 ?_
    refine s118_27 (by first | assumption | rfl) (by first | assumption | (exact hpo _) | rfl | decide) (by first | assumption | decide | omega) ?_
    refine s118_30 (st := []) ?_
    first
      | (rw [if_pos (show y.1 5 < y.1 3 ∨ y.1 6 = 0 by omega)] at h; exact h _ (rC.set (j := 5) (by omega) (by omega) (by omega) hC) (rF.u (by omega)))
      | (rw [if_neg (show ¬ (y.1 5 < y.1 3 ∨ y.1 6 = 0) by omega)] at h; exact h _ (rC.set (j := 5) (by omega) (by omega) (by omega) hC) (rF.u (by omega)))
  · refine s118_12 rfl ?_
    refine s118_13 (by first | assumption | rfl) (by first | assumption | (exact hpo _) | rfl | decide) (by first | assumption | decide | omega) ?_
    refine s118_16 ⟨by omega, by omega⟩ (fun h16 => ?_) (fun h16 => ?_)
    · refine s118_23 rfl ?_
      refine s118_24 (by first | assumption | rfl) (by first | assumption | (exact hpo _) | rfl | decide) (by first | assumption | decide | omega) ?_
      rw [k26]
      refine s118_27 (by first | assumption | rfl) (by first | assumption | (exact hpo _) | rfl | decide) (by first | assumption | decide | omega) ?_
      refine s118_30 (st := []) ?_
      first
        | (rw [if_pos (show y.1 5 < y.1 3 ∨ y.1 6 = 0 by omega)] at h; exact h _ (rC.set (j := 5) (by omega) (by omega) (by omega) hC) (rF.u (by omega)))
        | (rw [if_neg (show ¬ (y.1 5 < y.1 3 ∨ y.1 6 = 0) by omega)] at h; exact h _ (rC.set (j := 5) (by omega) (by omega) (by omega) hC) (rF.u (by omega)))
    · refine s118_19 ?_
      refine s118_20 ?_
      refine s118_27 (by first | assumption | rfl) (by first | assumption | (exact hpo _) | rfl | decide) (by first | assumption | decide | omega) ?_
      refine s118_30 (st := []) ?_
      first
        | (rw [if_pos (show y.1 5 < y.1 3 ∨ y.1 6 = 0 by omega)] at h; exact h _ (rC.set (j := 5) (by omega) (by omega) (by omega) hC) (rF.u (by omega)))
        | (rw [if_neg (show ¬ (y.1 5 < y.1 3 ∨ y.1 6 = 0) by omega)] at h; exact h _ (rC.set (j := 5) (by omega) (by omega) (by omega) hC) (rF.u (by omega)))
theorem c119 {u : Nat → Int} (hC : rC g y) (hF : tF g f sz) (hI : yI N L T M R U y) (hN : N ≤ 1580) (hL : L ≤ 1000) (hT : T ≤ 999999) (hM : M ≤ 1000) (hRb : 0 ≤ R ∧ R ≤ 511) (hU : U ≤ 511)
    (hG : zscan f sz u = none → ∀ g', rC g' y → tQ g g' → Q (.inl (some (.int (I 0)))) (x_vm g') n)
    (hR : ∀ t m d w y2 v g', zscan f sz u = some (t, m, d, w) → rC g' y2 → tQ g g' → (v, ysettle y2) = yrecv y t m d (w 0) (w 1) (w 2) → (0 ≤ y2.1 3 ∧ y2.1 3 ≤ 2000000) ∧ (0 ≤ y2.1 5 ∧ y2.1 5 ≤ 2000000) ∧ (y2.1 6 = 0 ∨ y2.1 6 = 1) → Q (.inl (some (.int (I v)))) (x_vm g') n) : x_V S 119 0 [some (.ref 100)] [] (x_vm g) n Q := by
  have fr : ∀ g', tV g g' → rC g' y := fun g' hV => hC.fr (fun a i q => hV a i (by omega) (by omega) (by omega) (by omega))
  refine s119_0 rfl ?_
  refine s119_1 (by first | assumption | rfl) (by simp) ?_
  refine c111 (u := u) hF (fun t m d w a b c g' hz hV hH hM' => ?_) (fun hz g' hV => ?_)
  · refine ⟨_, rfl, ?_⟩
    refine s119_4 ⟨by omega, by omega⟩ (fun _ => ?_) (fun h => absurd h (by omega))
    obtain ⟨p1, p2, p3, _⟩ := zscan_u hz
    have h52 : t = 52 → b = 89 ∨ b = 78 := fun z => by
      have := (hM'.2.2.2.2.1 (by rw [z, x_fc52]; omega)).1 z
      omega
    exact k119 (fr g' hV) hI hN hL hT hM hRb hU hH hM' p1 p3 p2 h52 (fun y2 v g2 q1 q2 q3 q4 => hR t m d w y2 v g2 hz q1 (hV.q.tr q2.q) q3 q4)
  · refine ⟨_, rfl, ?_⟩
    refine s119_4 ⟨by omega, by omega⟩ (fun h4 => ?_) (fun h4 => ?_)
    · exfalso; omega
    · refine s119_7 ?_
      refine s119_8 (st := []) ?_
      exact hG hz g' (fr g' hV) hV.q
theorem rI.tF (h : rI g bs) (hb : bs ≠ []) : tF g (zfb bs) bs.length := by
  obtain ⟨h1, h2, h3, h4⟩ := h
  obtain ⟨e1, e2⟩ := h2 hb
  refine ⟨e1, ⟨by omega, by omega⟩, fun p p1 p2 => ?_, fun p => ?_, fun p => ?_⟩
  · unfold zfb
    rw [if_pos ⟨p1, p2⟩, e2 _ (by omega)]
  · unfold zfb
    split
    · have := x_by_get h4 (j := p.toNat) (by omega)
      omega
    · omega
  · unfold zfb
    by_cases q : 0 ≤ p ∧ p < bs.length
    · rw [if_pos q]
      have := x_by_get h4 (j := p.toNat) (by omega)
      exact Or.inl ⟨q.1, q.2, this.1⟩
    · rw [if_neg q]
      exact Or.inr ⟨rfl, q⟩
theorem c120 {u : Nat → Int} (hZ : sC g y bs) (hI : yI N L T M R U (yclr y)) (hN : N ≤ 1580) (hL : L ≤ 1000) (hTb : T ≤ 999999) (hM : M ≤ 1000) (hRb : 0 ≤ R ∧ R ≤ 511) (hU : U ≤ 511)
    (hT : bs = [] → ∀ g', sC g' y bs → sF g g' → g' 100 0 = 1 → Q (.inl (some (.int (I 0)))) (x_vm g') n)
    (hG : bs ≠ [] → zscan (zfb bs) bs.length u = none → ∀ g', sC g' (yclr y) [] → sF g g' → g' 100 0 = 0 → Q (.inl (some (.int (I 0)))) (x_vm g') n)
    (hR : bs ≠ [] → ∀ t m d w, zscan (zfb bs) bs.length u = some (t, m, d, w) → ∀ g', sC g' (yrecv (yclr y) t m d (w 0) (w 1) (w 2)).2 [] → sF g g' → g' 100 0 = 0 → Q (.inl (some (.int (I (yrecv (yclr y) t m d (w 0) (w 1) (w 2)).1)))) (x_vm g') n) : x_V S 120 0 [some (.ref 100), none] [] (x_vm g) n Q := by
  have hth := fun c : Int => hZ.thr (c := c)
  have hZ0 := hZ.th0
  have hF0 : sF g (x_uf g 100 0 0) := sF.u
  have hF1 : ∀ c : Int, sF g (x_uf (x_uf g 100 0 0) 100 0 c) := fun c => sF.u.tr sF.u
  have v1 : ∀ c : Int, x_uf (x_uf g 100 0 0) 100 0 c 100 0 = c := fun c => x_uf_eq _ _ _ _
  have v0 : x_uf g 100 0 0 100 0 = 0 := x_uf_eq _ _ _ _
  refine s120_0 rfl ?_
  refine s120_1 ?_
  refine s120_2 rfl rfl (by decide) ?_
  generalize x_uf g 100 0 0 = g1 at hth hZ0 hF0 hF1 v1 v0 ⊢
  obtain ⟨hC, d1, d2, d3, d4⟩ := hZ0
  have e1 : (g1 100 1 = 0 ∧ bs = []) ∨ (g1 100 1 = 1 ∧ bs ≠ []) := by
    by_cases c : bs = []
    · left; rw [d1, if_pos c]; exact ⟨rfl, c⟩
    · right; rw [d1, if_neg c]; exact ⟨rfl, c⟩
  have emp : ∀ g2 : Nat → Nat → Int, g2 100 1 = 0 → rI g2 [] := fun g2 q => ⟨q, fun z => absurd rfl z, (by decide), fun b hb => absurd hb List.not_mem_nil⟩
  have run : bs ≠ [] → x_V S 120 18 [some (.ref 100), none] [] (x_vm g1) n Q := by
    intro hb
    have hF0' : tF (x_uf (x_uf g1 100 1 0) 100 15 0) (zfb bs) bs.length := by
      have z := rI.tF ⟨d1, d2, d3, d4⟩ hb
      exact ⟨by rw [x_uf_ne (by omega), x_uf_ne (by omega)]; exact z.1, z.2.1, fun p q1 q2 => by rw [x_uf_ne (by omega), x_uf_ne (by omega)]; exact z.2.2.1 p q1 q2, z.2.2.2⟩
    have hCc : rC (x_uf (x_uf g1 100 1 0) 100 15 0) (yclr y) := (hC.fr (fun a i q => x_uf_ne (by omega))).clr
    have hFc : sF g1 (x_uf (x_uf g1 100 1 0) 100 15 0) := sF.u.tr sF.u
    have f0 : x_uf (x_uf g1 100 1 0) 100 15 0 100 0 = 0 := by rw [x_uf_ne (by omega), x_uf_ne (by omega)]; exact v0
    have f1 : x_uf (x_uf g1 100 1 0) 100 15 0 100 1 = 0 := by rw [x_uf_ne (by omega), x_uf_eq]
    refine s120_18 rfl ?_
    refine s120_19 ?_
    refine s120_20 (by first | assumption | rfl) (by omega) (by first | assumption | (exact hpo _) | rfl | decide) (by first | assumption | decide | omega) ?_
    refine s120_23 rfl ?_
    refine s120_24 ?_
    refine s120_25 (by first | assumption | rfl) (by first | assumption | (exact hpo _) | rfl | decide) (by first | assumption | decide | omega) ?_
    refine s120_28 rfl ?_
    refine s120_29 (by first | assumption | rfl) (by simp) ?_
    generalize x_uf (x_uf g1 100 1 0) 100 15 0 = g2 at hF0' hCc hFc f0 f1
    have s0 : ysettle (yclr y) = yclr y := settle_id hI.1.2.2.2.1 hI.1.2.2.2.2.2.1
    have i3 := hI.1.1
    have i5 := hI.1.2.2.1
    have i6 := hI.1.2.2.2.2.1
    refine c119 (u := u) hCc hF0' hI hN hL hTb hM hRb hU (fun hz g3 hC3 hQ3 => ?_) (fun t m d w y2 v g3 hz hC3 hQ3 he hb2 => ?_)
    · refine ⟨_, rfl, ?_⟩
      refine s120_32 ?_
      refine s120_33 rfl ?_
      refine s120_34 (by first | assumption | rfl) (by simp) ?_
      refine c118b hC3 ⟨by omega, by omega⟩ ⟨by omega, by omega⟩ i6 (fun g4 hC4 hF4 => ?_)
      refine ⟨_, rfl, ?_⟩
      rw [s0] at hC4
      refine s120_37 rfl ?_
      refine s120_38 (st := []) ?_
      exact hG hb hz g4 ⟨hC4, emp g4 (by rw [hF4 _ _ (by omega), hQ3.2 _ (by omega)]; exact f1)⟩ (hF0.tr (hFc.tr (hQ3.1.tr hF4.s))) (by rw [hF4 _ _ (by omega), hQ3.2 _ (by omega)]; exact f0)
    · refine ⟨_, rfl, ?_⟩
      have hR := hR hb t m d w hz
      rw [← he] at hR
      refine s120_32 ?_
      refine s120_33 rfl ?_
      refine s120_34 (by first | assumption | rfl) (by simp) ?_
      refine c118b hC3 hb2.1 hb2.2.1 hb2.2.2 (fun g4 hC4 hF4 => ?_)
      refine ⟨_, rfl, ?_⟩
      refine s120_37 rfl ?_
      refine s120_38 (st := []) ?_
      exact hR g4 ⟨hC4, emp g4 (by rw [hF4 _ _ (by omega), hQ3.2 _ (by omega)]; exact f1)⟩ (hF0.tr (hFc.tr (hQ3.1.tr hF4.s))) (by rw [hF4 _ _ (by omega), hQ3.2 _ (by omega)]; exact f0)
  refine s120_5 rfl ?_
  refine s120_6 (by first | assumption | rfl) (by first | assumption | (exact hpo _) | rfl | decide) (by first | assumption | decide | omega) ?_
  refine s120_9 ⟨by omega, by omega⟩ (fun h9 => ?_) (fun h9 => ?_)
  · rcases e1 with q | q
    · exact absurd q.1 (by omega)
    · exact run q.2
  · refine s120_12 rfl ?_
    refine s120_13 ?_
    refine s120_14 (by first | assumption | rfl) (by simp) ?_
    refine c85 ?_
    refine ⟨_, rfl, ?_⟩
    refine s120_17 (st := []) ?_
    rcases e1 with q | q
    · exact hT q.2 _ (hth 1) (hF1 1) (v1 1)
    · exact absurd q.1 (by omega)
end MT
