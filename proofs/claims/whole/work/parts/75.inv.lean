/-! 75.inv: every call keeps what holds between calls. -/
section MI
variable {y : yS} {N L T M R U : Int} {t m d a b c : Int} {g : Nat → Nat → Int} {bs : List Int}
theorem yI.turn (h : yI N L T M R U y) (hN : N ≤ 99999) (hR : 0 ≤ R) (hH : yHB t m d a b c) : yI (N + 1) (L + 2 * R + 1) T (M + 1) (R + 1) (U + 1) (yturn y t a b c) := by
  obtain ⟨p1, p2, p3, p4, p5, p6, p7, p8, p9⟩ := hH
  have i4 := h.1.2.1
  unfold yturn
  by_cases c1 : t = 49
  · rw [if_pos c1]
    exact (h.send (rok_s (by decide) (by decide) ⟨by omega, by omega⟩ ⟨by omega, by omega⟩ (fun z => absurd rfl z) ⟨by omega, by omega⟩)).up (by omega) (by omega) (by omega) (by omega) (by omega) (by omega)
  rw [if_neg c1]
  by_cases c2 : t = 50
  · rw [if_pos c2]
    exact (h.resend (by omega) (p7 (by omega) (by omega))).up (by omega) (by omega) (by omega) (by omega) (by omega) (by omega)
  rw [if_neg c2]
  by_cases c3 : t = 52
  · rw [if_pos c3]
    exact (h.raise (by omega)).up (by omega) (by omega) (by omega) (by omega) (by omega) (by omega)
  rw [if_neg c3]
  by_cases c4 : t = 53
  · rw [if_pos c4]
    exact (h.logout (by omega)).up (by omega) (by omega) (by omega) (by omega) (by omega) (by omega)
  rw [if_neg c4]
  by_cases c5 : t = 68 ∨ t = 70 ∨ t = 71
  · rw [if_pos c5]
    exact (h.order (by omega) ⟨p7 (by omega) (by omega), by omega⟩ ⟨p8 (by omega), by omega⟩ (fun q => ⟨p9 q, by omega⟩) c5).up (by omega) (by omega) (by omega) (by omega) (by omega) (by omega)
  · rw [if_neg c5]
    exact h.up (by omega) (by omega) (by omega) (by omega) (by omega) (by omega)
theorem yI.early3 (h : yI N L T M R U y) (hN : N ≤ 99999) (hm : m ≤ 999999) (h3 : y.1 3 < m) : yI (N + 1) (L + 1) T M R U (yearly3 y m) := by
  unfold yearly3
  by_cases c6 : y.1 6 = 0
  · rw [if_pos c6]; exact h.up (by omega) (by omega) (by omega) (by omega) (by omega) (by omega)
  rw [if_neg c6]
  have key : ∀ {N' L' : Int} (y' : yS), yI N' L' T M R U y' → y'.1 6 = y.1 6 → y'.1 3 = y.1 3 → yI N' L' T M R U (yearly2 y' m) := by
    intro N' L' y' h' e6 e3
    have i5 := h'.1.2.2.1
    unfold yearly2
    exact h'.s5 (by rw [e6]; exact c6) (by rw [e3]; split <;> omega) (by split <;> omega)
  by_cases c5 : y.1 5 = 0
  · rw [if_pos c5]
    exact key _ (h.ask (by omega) (by omega)) rfl rfl
  · rw [if_neg c5]
    exact (key y h rfl rfl).up (by omega) (by omega) (by omega) (by omega) (by omega) (by omega)
theorem yI.recv (h : yI N L T M R U y) (hN : N ≤ 99990) (hR : 0 ≤ R) (hH : yHB t m d a b c) : yI (N + 3) (L + 2 * R + 5) T (M + 1) (R + 1) (U + 1) (yrecv y t m d a b c).2 := by
  have hH0 := hH
  obtain ⟨p1, p2, p3, p4, p5, p6, p7, p8, p9⟩ := hH
  unfold yrecv
  by_cases c0 : y.1 6 = 0 ∧ t ≠ 65
  · rw [if_pos c0]
    exact h.up (by omega) (by omega) (by omega) (by omega) (by omega) (by omega)
  rw [if_neg c0]
  have h0 := h.s9
  have e6 : (yset y 9 (y.1 7)).1 6 = y.1 6 := rfl
  generalize yset y 9 (y.1 7) = y0 at h0 e6
  unfold yrecv1
  by_cases c1 : t = 52 ∧ ¬ 0 < b
  · rw [if_pos c1]
    exact (h0.raise (by omega)).up (by omega) (by omega) (by omega) (by omega) (by omega) (by omega)
  rw [if_neg c1]
  by_cases c2 : m < y0.1 3
  · rw [if_pos c2]
    show yI _ _ _ _ _ _ (ylow y0 d)
    unfold ylow
    split
    · exact (h0.logout (by omega)).up (by omega) (by omega) (by omega) (by omega) (by omega) (by omega)
    · exact h0.up (by omega) (by omega) (by omega) (by omega) (by omega) (by omega)
  rw [if_neg c2]
  have h1 : yI (N + 1) (L + 1) T M R U (yin y0 a) := by
    by_cases q : y0.1 6 = 0
    · exact h0.inn (by omega) ⟨p7 (by omega) (by omega), by omega⟩
    · rw [yin_1 q]
      exact h0.up (by omega) (by omega) (by omega) (by omega) (by omega) (by omega)
  have e3 : (yin y0 a).1 3 = y0.1 3 := by
    unfold yin
    split <;> rfl
  generalize yin y0 a = y1 at h1 e3
  unfold yhigh
  by_cases c3 : y1.1 3 < m
  · rw [if_pos c3]
    show yI _ _ _ _ _ _ (yearly3 (yearly1 y1 t a b) m)
    have h2 : yI (N + 2) (L + 2 * R + 3) T M R U (yearly1 y1 t a b) := by
      unfold yearly1
      by_cases q : t = 50
      · rw [if_pos q]
        exact (h1.resend (by omega) (p7 (by omega) (by omega))).up (by omega) (by omega) (by omega) (by omega) (by omega) (by omega)
      · rw [if_neg q]
        split
        · exact (h1.logout (by omega)).up (by omega) (by omega) (by omega) (by omega) (by omega) (by omega)
        · exact h1.up (by omega) (by omega) (by omega) (by omega) (by omega) (by omega)
    exact (h2.early3 (by omega) p2.2 (by rw [yearly1_3]; exact c3)).up (by omega) (by omega) (by omega) (by omega) (by omega) (by omega)
  · rw [if_neg c3]
    exact ((h1.raise (m := y1.1 3 + 1) (by omega)).turn (by omega) hR hH0).up (by omega) (by omega) (by omega) (by omega) (by omega) (by omega)
theorem yI.t1 (h : yI N L T M R U y) (hN : N ≤ 99990) (hT : T ≤ 99999) : yI (N + 1) (L + 1) T M R U (ytick1 y) := by
  have i4 := h.1.2.1
  have i7 := h.1.2.2.2.2.2.2.1
  unfold ytick1
  split
  · exact h.send (rok_s (by decide) (by decide) ⟨by omega, by omega⟩ ⟨by omega, by omega⟩ (fun _ => by omega) ⟨by omega, by omega⟩)
  · exact h.up (by omega) (by omega) (by omega) (by omega) (by omega) (by omega)
theorem yI.t2 (h : yI N L T M R U y) (hN : N ≤ 99990) : yI (N + 1) (L + 1) T M R U (ytick2 y) := by
  have i3 := h.1.1
  have i5 := h.1.2.2.1
  have i35 := h.1.2.2.2.1
  unfold ytick2
  split
  · exact h.ask (by omega) (by omega)
  · exact h.up (by omega) (by omega) (by omega) (by omega) (by omega) (by omega)
theorem yI.t3 (h : yI N L T M R U y) (hN : N ≤ 99990) : yI (N + 1) (L + 1) T M R U (ytick3 y) := by
  have i4 := h.1.2.1
  unfold ytick3
  split
  · exact h.send (rok_s (by decide) (by decide) ⟨by omega, by omega⟩ ⟨by omega, by omega⟩ (fun z => absurd rfl z) ⟨by omega, by omega⟩)
  · exact h.up (by omega) (by omega) (by omega) (by omega) (by omega) (by omega)
theorem yI.tick (h : yI N L T M R U y) (hN : N ≤ 9999) (hT : T ≤ 9999) : yI (N + 3) (L + 3) (T + 1) M R U (ytick y) := by
  have h7 := h.s7
  unfold ytick
  split
  · exact h7.up (by omega) (by omega) (by omega) (by omega) (by omega) (by omega)
  · split
    · exact (h7.logout (by omega)).up (by omega) (by omega) (by omega) (by omega) (by omega) (by omega)
    · have := ((h7.t1 (by omega) (by omega)).t2 (by omega)).t3 (by omega)
      exact this.up (by omega) (by omega) (by omega) (by omega) (by omega) (by omega)
theorem yI.fill {w q : Int} (h : yI N L T M R U y) (hN : N ≤ 9999) (hk : yopen y.2.2.2.1 w < y.2.2.2.1.length) (hq : 1 ≤ q ∧ q ≤ (y.2.2.2.1.getD (yopen y.2.2.2.1 w) yE).2.2.1 - (y.2.2.2.1.getD (yopen y.2.2.2.1 w) yE).2.2.2.1) (hw : 0 ≤ w ∧ w ≤ 999999) : yI (N + 1) (L + 1) T M (R + 1) U (yfill y w q) := by
  have hO2 := h.2.2.2.1.fil hk hq
  obtain ⟨v1, v2, v3, v4, v5, v6⟩ := h.2.2.2.1.1 _ hk
  have hb := h.book hO2 h.2.2.2.2
  unfold yfill
  generalize y.2.2.2.1.getD (yopen y.2.2.2.1 w) yE = r at hq v1 v2 v3 v4 v5 hb
  have hs := yst_b (yfil r q)
  have hf : 0 ≤ (yfil r q).2.2.2.1 ∧ (yfil r q).2.2.2.1 ≤ (yfil r q).2.2.1 := (show 0 ≤ r.2.2.2.1 + q ∧ r.2.2.2.1 + q ≤ r.2.2.1 by omega)
  have h3 : (yfil r q).2.2.1 ≤ 999999 := v3
  have hl := ylf_b h3 hf
  exact hb.rep (by omega) hw ⟨by omega, by omega⟩ ⟨hf.1, by omega⟩ hl
/-- what the contracts ask of the value -/
theorem yI.B (h : yI N L T M R U y) (hN : N ≤ 9999) (hL : L ≤ 9999) (hT : T ≤ 9999) (hM : M ≤ 9999) : yB 2000000 y := by
  obtain ⟨⟨a3, a4, a5, a35, a6, a65, a7, a8, a9, a10, a11⟩, ⟨b1, b2⟩, ⟨c1, c2, c3⟩, d1, d2⟩ := h
  refine ⟨fun j h1 h2 => ?_, by omega, by omega⟩
  have hj : j = 3 ∨ j = 4 ∨ j = 5 ∨ j = 6 ∨ j = 7 ∨ j = 8 ∨ j = 9 ∨ j = 10 ∨ j = 11 := by omega
  rcases hj with q | q | q | q | q | q | q | q | q <;> rw [q] <;> omega
theorem ygmem {α : Type} {l : List α} {k : Nat} {z : α} (h : k < l.length) : l.getD k z ∈ l := by
  rw [List.getD_eq_getElem?_getD, List.getElem?_eq_getElem h]
  exact List.getElem_mem h
theorem yI.Nn (h : yI N L T M R U y) (hN : N ≤ 9999) : yN y := fun k hk => by
  have := h.2.2.1.1 _ (ygmem (z := yE) hk)
  have := h.1.2.1
  omega
theorem yI.ok (h : yI N L T M R U y) : ∀ k, k < y.2.1.length → k < 20 → yfok (y.2.1.getD k yD) := fun k hk _ => (h.2.1.2 _ (ygmem hk)).1
/-- the id of an open order -/
theorem yopen_w {w : Int} (hO : yO y) (hk : yopen y.2.2.2.1 w < y.2.2.2.1.length) : 0 ≤ w ∧ w ≤ 999999 := by
  have e : yop w (y.2.2.2.1.getD (yopen y.2.2.2.1 w) yE) = true := by
    rw [List.getD_eq_getElem?_getD, List.getElem?_eq_getElem hk]
    exact List.findIdx_getElem (w := hk)
  have e := (of_decide_eq_true e).1
  have := (hO.1 _ hk).1
  omega
end MI
