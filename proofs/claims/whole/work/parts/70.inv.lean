/-! 70.inv: what holds between calls. -/
section MI
variable {y : yS} {N L T M R U : Int}
def yIc (N T M : Int) (s : Nat → Int) : Prop := (0 ≤ s 3 ∧ s 3 ≤ 1000000) ∧ (1 ≤ s 4 ∧ s 4 ≤ N) ∧ (0 ≤ s 5 ∧ s 5 ≤ 999999) ∧ (s 5 = 0 ∨ s 3 ≤ s 5) ∧ (s 6 = 0 ∨ s 6 = 1) ∧ (s 6 = 0 → s 5 = 0) ∧ (0 ≤ s 7 ∧ s 7 ≤ T) ∧ (0 ≤ s 8 ∧ s 8 ≤ M) ∧ (0 ≤ s 9 ∧ s 9 ≤ T) ∧ (0 ≤ s 10 ∧ s 10 ≤ T) ∧ (0 ≤ s 11 ∧ s 11 ≤ T)
def yI (N L T M R U : Int) (y : yS) : Prop := yIc N T M y.1 ∧ ((y.2.1.length : Int) ≤ L ∧ ∀ m ∈ y.2.1, rok m) ∧ ((∀ r ∈ y.2.2.1, 0 < r.1 ∧ r.1 < y.1 4) ∧ rL y.2.2.1 ∧ (y.2.2.1.length : Int) ≤ R) ∧ yO y ∧ (y.2.2.2.2.length : Int) ≤ U
theorem yI.up {N' L' T' M' R' U' : Int} (h : yI N L T M R U y) (h1 : N ≤ N') (h2 : L ≤ L') (h3 : T ≤ T') (h4 : M ≤ M') (h5 : R ≤ R') (h6 : U ≤ U') : yI N' L' T' M' R' U' y := by
  obtain ⟨⟨a3, a4, a5, a35, a6, a65, a7, a8, a9, a10, a11⟩, ⟨b1, b2⟩, ⟨c1, c2, c3⟩, d1, d2⟩ := h
  exact ⟨⟨a3, by omega, a5, a35, a6, a65, by omega, by omega, by omega, by omega, by omega⟩, ⟨by omega, b2⟩, ⟨c1, c2, by omega⟩, d1, by omega⟩
theorem yI.clr (h : yI N L T M R U y) : yI N 0 T M R U (yclr y) := by
  obtain ⟨⟨a3, a4, a5, a35, a6, a65, a7, a8, a9, a10, a11⟩, ⟨b1, b2⟩, ⟨c1, c2, c3⟩, d1, d2⟩ := h
  exact ⟨⟨a3, a4, a5, a35, a6, a65, a7, a8, a9, a10, a11⟩, ⟨Int.le_refl _, fun m hm => absurd hm List.not_mem_nil⟩, ⟨c1, c2, c3⟩, d1, d2⟩
theorem mem_snoc {α : Type} {P : α → Prop} {l : List α} {x : α} (h : ∀ m ∈ l, P m) (hx : P x) : ∀ m ∈ l ++ [x], P m := fun m hm => by
  rcases List.mem_append.1 hm with q | q
  · exact h m q
  · rw [List.mem_singleton.1 q]; exact hx
theorem yI.post {m : yM} (h : yI N L T M R U y) (ho : rok m) : yI N (L + 1) T M R U (ypost y m) := by
  obtain ⟨⟨a3, a4, a5, a35, a6, a65, a7, a8, a9, a10, a11⟩, ⟨b1, b2⟩, ⟨c1, c2, c3⟩, d1, d2⟩ := h
  refine ⟨⟨a3, a4, a5, a35, a6, a65, a7, a8, a9, a7, a11⟩, ⟨?_, mem_snoc b2 ho⟩, ⟨c1, c2, c3⟩, d1, d2⟩
  show ((y.2.1 ++ [m]).length : Int) ≤ L + 1
  rw [ylen_app]; omega
theorem yI.send {t p q : Int} (h : yI N L T M R U y) (ho : rok (t, y.1 4, 0, p, q, 0, 0)) : yI (N + 1) (L + 1) T M R U (ysend y t p q) := by
  obtain ⟨⟨a3, a4, a5, a35, a6, a65, a7, a8, a9, a10, a11⟩, ⟨b1, b2⟩, ⟨c1, c2, c3⟩, d1, d2⟩ := h
  refine ⟨⟨a3, (show 1 ≤ y.1 4 + 1 ∧ y.1 4 + 1 ≤ N + 1 by omega), a5, a35, a6, a65, a7, a8, a9, a7, a11⟩, ⟨?_, mem_snoc b2 ho⟩, ⟨fun r hr => ?_, c2, c3⟩, d1, d2⟩
  · show ((y.2.1 ++ [_]).length : Int) ≤ L + 1
    rw [ylen_app]; omega
  · have := c1 r hr
    show 0 < r.1 ∧ r.1 < y.1 4 + 1
    omega
theorem yI.s9 (h : yI N L T M R U y) : yI N L T M R U (yset y 9 (y.1 7)) := by
  obtain ⟨⟨a3, a4, a5, a35, a6, a65, a7, a8, a9, a10, a11⟩, ⟨b1, b2⟩, ⟨c1, c2, c3⟩, d1, d2⟩ := h
  exact ⟨⟨a3, a4, a5, a35, a6, a65, a7, a8, a7, a10, a11⟩, ⟨b1, b2⟩, ⟨c1, c2, c3⟩, d1, d2⟩
theorem yI.s7 (h : yI N L T M R U y) : yI N L (T + 1) M R U (yset y 7 (y.1 7 + 1)) := by
  obtain ⟨⟨a3, a4, a5, a35, a6, a65, a7, a8, a9, a10, a11⟩, ⟨b1, b2⟩, ⟨c1, c2, c3⟩, d1, d2⟩ := h
  exact ⟨⟨a3, a4, a5, a35, a6, a65, (show 0 ≤ y.1 7 + 1 ∧ y.1 7 + 1 ≤ T + 1 by omega), a8, (show 0 ≤ y.1 9 ∧ y.1 9 ≤ T + 1 by omega), (show 0 ≤ y.1 10 ∧ y.1 10 ≤ T + 1 by omega), (show 0 ≤ y.1 11 ∧ y.1 11 ≤ T + 1 by omega)⟩, ⟨b1, b2⟩, ⟨c1, c2, c3⟩, d1, d2⟩
theorem yI.s8 (h : yI N L T M R U y) : yI N L T (M + 1) R U (yset y 8 (y.1 8 + 1)) := by
  obtain ⟨⟨a3, a4, a5, a35, a6, a65, a7, a8, a9, a10, a11⟩, ⟨b1, b2⟩, ⟨c1, c2, c3⟩, d1, d2⟩ := h
  exact ⟨⟨a3, a4, a5, a35, a6, a65, a7, (show 0 ≤ y.1 8 + 1 ∧ y.1 8 + 1 ≤ M + 1 by omega), a9, a10, a11⟩, ⟨b1, b2⟩, ⟨c1, c2, c3⟩, d1, d2⟩
theorem yI.s6 (h : yI N L T M R U y) : yI N L T M R U (yset y 6 1) := by
  obtain ⟨⟨a3, a4, a5, a35, a6, a65, a7, a8, a9, a10, a11⟩, ⟨b1, b2⟩, ⟨c1, c2, c3⟩, d1, d2⟩ := h
  exact ⟨⟨a3, a4, a5, a35, Or.inr rfl, (fun q => absurd (show (1 : Int) = 0 from q) (by omega)), a7, a8, a9, a10, a11⟩, ⟨b1, b2⟩, ⟨c1, c2, c3⟩, d1, d2⟩
theorem yI.s11 (h : yI N L T M R U y) : yI N L T M R U (yset y 11 (y.1 7)) := by
  obtain ⟨⟨a3, a4, a5, a35, a6, a65, a7, a8, a9, a10, a11⟩, ⟨b1, b2⟩, ⟨c1, c2, c3⟩, d1, d2⟩ := h
  exact ⟨⟨a3, a4, a5, a35, a6, a65, a7, a8, a9, a10, a7⟩, ⟨b1, b2⟩, ⟨c1, c2, c3⟩, d1, d2⟩
theorem yI.leave (h : yI N L T M R U y) : yI N L T M R U (yleave y) := by
  obtain ⟨⟨a3, a4, a5, a35, a6, a65, a7, a8, a9, a10, a11⟩, ⟨b1, b2⟩, ⟨c1, c2, c3⟩, d1, d2⟩ := h
  exact ⟨⟨a3, a4, (show (0 : Int) ≤ 0 ∧ (0 : Int) ≤ 999999 by omega), Or.inl rfl, Or.inl rfl, fun _ => rfl, a7, a8, a9, a10, a11⟩, ⟨b1, b2⟩, ⟨c1, c2, c3⟩, d1, d2⟩
theorem yI.s5 {m : Int} (h : yI N L T M R U y) (h6 : y.1 6 ≠ 0) (h1 : y.1 3 ≤ m) (h2 : m ≤ 999999) : yI N L T M R U (yset y 5 m) := by
  obtain ⟨⟨a3, a4, a5, a35, a6, a65, a7, a8, a9, a10, a11⟩, ⟨b1, b2⟩, ⟨c1, c2, c3⟩, d1, d2⟩ := h
  exact ⟨⟨a3, a4, (show 0 ≤ m ∧ m ≤ 999999 by omega), Or.inr h1, a6, fun q => absurd q h6, a7, a8, a9, a10, a11⟩, ⟨b1, b2⟩, ⟨c1, c2, c3⟩, d1, d2⟩
theorem yI.raise {m : Int} (h : yI N L T M R U y) (h2 : m ≤ 1000000) : yI N L T M R U (yraise y m) := by
  unfold yraise
  split
  · exact h
  · obtain ⟨⟨a3, a4, a5, a35, a6, a65, a7, a8, a9, a10, a11⟩, ⟨b1, b2⟩, ⟨c1, c2, c3⟩, d1, d2⟩ := h
    split
    · exact ⟨⟨(show 0 ≤ m ∧ m ≤ 1000000 by omega), a4, (show (0 : Int) ≤ 0 ∧ (0 : Int) ≤ 999999 by omega), Or.inl rfl, a6, fun _ => rfl, a7, a8, a9, a10, a11⟩, ⟨b1, b2⟩, ⟨c1, c2, c3⟩, d1, d2⟩
    · exact ⟨⟨(show 0 ≤ m ∧ m ≤ 1000000 by omega), a4, a5, Or.inr (show m ≤ y.1 5 by omega), a6, a65, a7, a8, a9, a10, a11⟩, ⟨b1, b2⟩, ⟨c1, c2, c3⟩, d1, d2⟩
theorem yI.logout (h : yI N L T M R U y) (hN : N ≤ 999999) : yI (N + 1) (L + 1) T M R U (ylogout y) := (h.send (rok_s (by decide) (by decide) (by have := h.1.2.1; omega) ⟨by omega, by omega⟩ (fun _ => by omega) ⟨by omega, by omega⟩)).leave
theorem yI.ask (h : yI N L T M R U y) (hN : N ≤ 999999) (h3 : y.1 3 ≤ 999999) : yI (N + 1) (L + 1) T M R U (yask y) := (h.send (rok_s (by decide) (by decide) (by have := h.1.2.1; omega) (by have := h.1.1; omega) (fun _ => h.1.1.1) ⟨by omega, by omega⟩)).s11
theorem yI.inn {a : Int} (h : yI N L T M R U y) (hN : N ≤ 999999) (ha : 0 ≤ a ∧ a ≤ 999999) : yI (N + 1) (L + 1) T M R U (yin y a) := by
  unfold yin
  split
  · exact h.s6.send (rok_s (by decide) (by decide) (by have := h.1.2.1; exact ⟨by show 0 ≤ y.1 4; omega, by show y.1 4 ≤ 999999; omega⟩) ⟨by omega, by omega⟩ (fun _ => ha.1) ⟨by omega, by omega⟩)
  · exact h.up (by omega) (by omega) (by omega) (by omega) (by omega) (by omega)
theorem rok_g {u b : Int} (hu : 0 ≤ u ∧ u ≤ 999999) (hb : 0 ≤ b ∧ b ≤ 999999) : rok (52, u, 1, b, 1, 0, 0) := ⟨⟨(show (0 : Int) ≤ 52 ∧ (52 : Int) ≤ 127 by omega), hu, Or.inr rfl, (show -1 ≤ b ∧ b ≤ 999999 by omega), (show (-1 : Int) ≤ 1 ∧ (1 : Int) ≤ 999999 by omega), (show (-1 : Int) ≤ 0 ∧ (0 : Int) ≤ 999999 by omega), (show (-1 : Int) ≤ 0 ∧ (0 : Int) ≤ 999999 by omega), fun e => absurd (show (52 : Int) = 56 from e) (by omega)⟩, (show xty 52 by decide), fun _ => hb.1, (show (0 : Int) ≤ 1 by omega), (show (0 : Int) ≤ 0 by omega), (show (0 : Int) ≤ 0 by omega)⟩
theorem yI.gap {u b : Int} (h : yI N L T M R U y) (hu : 0 ≤ u) (hb : b ≤ 999999) : yI N (L + 1) T M R U (ygap y u b) := by
  unfold ygap
  split
  · exact h.post (rok_g ⟨hu, by omega⟩ ⟨by omega, hb⟩)
  · exact h.up (by omega) (by omega) (by omega) (by omega) (by omega) (by omega)
theorem yI.ans {last : Int} (hl : last + 1 ≤ 999999) : ∀ (ls : List yR) (y : yS) (u L : Int), yI N L T M R U y → 0 ≤ u → (∀ r ∈ ls, 0 ≤ r.1 ∧ rok (56, r.1, 1, r.2.1, r.2.2.1, r.2.2.2.1, r.2.2.2.2)) → yI N (L + 2 * ls.length + 1) T M R U (yans last ls y u)
  | [], y, u, L, h, hu, ho => by
    have := h.gap hu hl
    simp only [List.length_nil]
    exact this.up (by omega) (by omega) (by omega) (by omega) (by omega) (by omega)
  | r :: ls, y, u, L, h, hu, ho => by
    have hr := ho r (List.mem_cons_self ..)
    have ho' := fun r' hr' => ho r' (List.mem_cons_of_mem r hr')
    rw [yans]
    split
    · have := yI.ans hl ls _ (r.1 + 1) _ ((h.gap hu (show r.1 ≤ 999999 by omega)).post hr.2) (by omega) ho'
      exact this.up (by omega) (by rw [List.length_cons]; omega) (by omega) (by omega) (by omega) (by omega)
    · have := yI.ans hl ls y u L h hu ho'
      exact this.up (by omega) (by rw [List.length_cons]; omega) (by omega) (by omega) (by omega) (by omega)
theorem yI.resend {f t : Int} (h : yI N L T M R U y) (hN : N ≤ 999999) (hf : 0 ≤ f) : yI N (L + 2 * R + 1) T M R U (yresend y f t) := by
  have a4 := h.1.2.1
  have c := h.2.2.1
  have := yI.ans (last := if t = 0 ∨ y.1 4 ≤ t then y.1 4 - 1 else t) (by split <;> omega) y.2.2.1 y (if f < 1 then 1 else f) L h (by split <;> omega) (fun r hr => ⟨by have := c.1 r hr; omega, c.2.1.2 r hr⟩)
  exact this.up (by omega) (by omega) (by omega) (by omega) (by omega) (by omega)
theorem rok_8 {u d i s f l : Int} (hu : 0 ≤ u ∧ u ≤ 999999) (hd : d = 0 ∨ d = 1) (hi : 0 ≤ i ∧ i ≤ 999999) (hs : 0 ≤ s ∧ s ≤ 127) (hf : 0 ≤ f ∧ f ≤ 999999) (hl : 0 ≤ l ∧ l ≤ 999999) : rok (56, u, d, i, s, f, l) := ⟨⟨(show (0 : Int) ≤ 56 ∧ (56 : Int) ≤ 127 by omega), hu, hd, (show -1 ≤ i ∧ i ≤ 999999 by omega), (show -1 ≤ s ∧ s ≤ 999999 by omega), (show -1 ≤ f ∧ f ≤ 999999 by omega), (show -1 ≤ l ∧ l ≤ 999999 by omega), fun _ => hs⟩, (show xty 56 by decide), fun _ => hi.1, hs.1, hf.1, hl.1⟩
theorem yI.rep {i s f l : Int} (h : yI N L T M R U y) (hN : N ≤ 999999) (hi : 0 ≤ i ∧ i ≤ 999999) (hs : 0 ≤ s ∧ s ≤ 127) (hf : 0 ≤ f ∧ f ≤ 999999) (hl : 0 ≤ l ∧ l ≤ 999999) : yI (N + 1) (L + 1) T M (R + 1) U (yrep y i s f l) := by
  have h4 := h.1.2.1
  have hk : ∀ m : List yM, ((m.length : Int) ≤ L + 1) → (∀ x ∈ m, rok x) → ∀ z : Int, (0 ≤ z ∧ z ≤ T) → yI (N + 1) (L + 1) T M (R + 1) U (fun j => if j = 4 then y.1 4 + 1 else if j = 10 then z else y.1 j, m, y.2.2.1 ++ [(y.1 4, i, s, f, l)], y.2.2.2) := by
    intro m hm1 hm2 z hz
    obtain ⟨⟨a3, a4, a5, a35, a6, a65, a7, a8, a9, a10, a11⟩, ⟨b1, b2⟩, ⟨c1, c2, c3⟩, d1, d2⟩ := h
    refine ⟨⟨a3, (show 1 ≤ y.1 4 + 1 ∧ y.1 4 + 1 ≤ N + 1 by omega), a5, a35, a6, a65, a7, a8, a9, hz, a11⟩, ⟨hm1, hm2⟩, ⟨?_, ⟨?_, ?_⟩, ?_⟩, d1, d2⟩
    · exact mem_snoc (fun r hr => by have := c1 r hr; show 0 < r.1 ∧ r.1 < y.1 4 + 1; omega) (show 0 < y.1 4 ∧ y.1 4 < y.1 4 + 1 by omega)
    · show (y.2.2.1 ++ [_]).Pairwise _
      rw [List.pairwise_append]
      refine ⟨c2.1, List.pairwise_singleton _ _, fun r hr r' hr' => ?_⟩
      rw [List.mem_singleton.1 hr']
      exact (c1 r hr).2
    · exact mem_snoc c2.2 (rok_8 ⟨by omega, by omega⟩ (Or.inr rfl) hi hs hf hl)
    · show ((y.2.2.1 ++ [_]).length : Int) ≤ R + 1
      rw [ylen_app]; omega
  have hb := h.2.1
  have h7 := h.1.2.2.2.2.2.2.1
  have h10 := h.1.2.2.2.2.2.2.2.2.2.1
  unfold yrep
  by_cases c : y.1 6 = 0
  · rw [if_pos c]
    have := hk y.2.1 (by omega) hb.2 (y.1 10) h10
    refine (show yset (ykeep y (y.1 4, i, s, f, l)) 4 (y.1 4 + 1) = _ from ?_) ▸ this
    refine Prod.ext (funext fun j => ?_) rfl
    show (if j = 4 then y.1 4 + 1 else y.1 j) = (if j = 4 then y.1 4 + 1 else if j = 10 then y.1 10 else y.1 j)
    by_cases q : j = 10
    · rw [q]; rfl
    · rw [if_neg q]
  · rw [if_neg c]
    exact hk (y.2.1 ++ [(56, y.1 4, 0, i, s, f, l)]) (by rw [ylen_app]; omega) (mem_snoc hb.2 (rok_8 ⟨by omega, by omega⟩ (Or.inl rfl) hi hs hf hl)) (y.1 7) h7
theorem yI.book {l : List yR} {u : List Int} (h : yI N L T M R U y) {U' : Int} (hO : yO (ybook y l u)) (hu : (u.length : Int) ≤ U') : yI N L T M R U' (ybook y l u) := by
  obtain ⟨⟨a3, a4, a5, a35, a6, a65, a7, a8, a9, a10, a11⟩, ⟨b1, b2⟩, ⟨c1, c2, c3⟩, d1, d2⟩ := h
  exact ⟨⟨a3, a4, a5, a35, a6, a65, a7, a8, a9, a10, a11⟩, ⟨b1, b2⟩, ⟨c1, c2, c3⟩, hO, hu⟩
theorem ylf_b {r : yR} (h : r.2.2.1 ≤ 999999) (h2 : 0 ≤ r.2.2.2.1 ∧ r.2.2.2.1 ≤ r.2.2.1) : 0 ≤ ylf r ∧ ylf r ≤ 999999 := by
  unfold ylf
  split <;> omega
theorem ycarry_f {t a b c : Int} {k : Nat} {y' : yS} (q : ycarry y t a b c = some (k, y')) : ∃ l, y' = ybook y l (y.2.2.2.2 ++ [a]) := by
  unfold ycarry at q
  split at q
  · cases q
  · split at q
    · split at q
      · cases q
      · cases q; exact ⟨_, rfl⟩
    · split at q
      · cases q
      · cases q; exact ⟨_, rfl⟩
theorem yI.order {t a b c : Int} (h : yI N L T M R U y) (hN : N ≤ 999999) (ha : 0 ≤ a ∧ a ≤ 999999) (hb : 0 ≤ b ∧ b ≤ 999999) (hc : t = 68 ∨ t = 71 → 0 ≤ c ∧ c ≤ 999999) (ht : t = 68 ∨ t = 70 ∨ t = 71) : yI (N + 1) (L + 1) T (M + 1) (R + 1) (U + 1) (yorder (yset y 8 (y.1 8 + 1)) t a b c) := by
  have h1 := h.s8
  generalize yset y 8 (y.1 8 + 1) = y1 at h1
  unfold yorder
  cases e : ycarry y1 t a b c with
  | none =>
    simp only
    exact (h1.rep hN ha (by omega) (by omega) (by omega)).up (by omega) (by omega) (by omega) (by omega) (by omega) (by omega)
  | some z =>
    obtain ⟨k, y'⟩ := z
    simp only
    obtain ⟨l, el⟩ := ycarry_f e
    have hO := h1.2.2.2.1
    have hO2 := hO.carry ha hb hc ht e
    obtain ⟨f1, f2, f3, f4⟩ := ycarry_ok (B := 0) hO ha hb hc ht e
    obtain ⟨g1, g2, g3, g4, g5, g6⟩ := hO2.1 k f3
    have hs := yst_b (y'.2.2.2.1.getD k yE)
    have hlf := ylf_b (r := y'.2.2.2.1.getD k yE) g3 g4
    have h2 : yI N L T (M + 1) R (U + 1) y' := by
      rw [el] at hO2 ⊢
      exact yI.book h1 hO2 (by rw [ylen_app]; have := h1.2.2.2.2; omega)
    exact (h2.rep hN ha (by omega) (by omega) hlf).up (by omega) (by omega) (by omega) (by omega) (by omega) (by omega)
end MI
