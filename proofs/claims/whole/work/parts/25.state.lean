/-! 25.state: the session as a mathematical value (scalars, frames sent, reports, orders, ids used), and how the class holds it. -/
section CS
variable {S : Nat × (Nat → Int32)} {μ : xM} {g : Nat → Nat → Int} {n a v : Nat} {Q : xQ}
/-- a message: type, number, duplicate, four values -/
abbrev yM : Type := Int × Int × Int × Int × Int × Int × Int
/-- a report: number, id, state, filled, left; an order: id, side, quantity, filled, cancelled -/
abbrev yR : Type := Int × Int × Int × Int × Int
/-- scalars by the class's own numbers (3 awaited, 4 next, 5 missing, 6 in, 7 time, 8 order messages, 9 heard, 10 said, 11 asked); frames of the latest call; reports; orders; ids -/
abbrev yS : Type := (Nat → Int) × List yM × List yR × List yR × List Int
def yset (y : yS) (j : Nat) (z : Int) : yS := (fun i => if i = j then z else y.1 i, y.2)
def yout (y : yS) (m : yM) : yS := (y.1, y.2.1 ++ [m], y.2.2)
def yD : yM := (0, 0, 0, 0, 0, 0, 0)
def yE : yR := (0, 0, 0, 0, 0)
def yC1 (g : Nat → Nat → Int) (s : Nat → Int) : Prop := ∀ j, 3 ≤ j → j ≤ 11 → g 8 j = s j
def yC2 (g : Nat → Nat → Int) (l : List yM) : Prop := g 9 2 = l.length ∧ ∀ k, k < 20 → k < l.length → (g (13 + 2 * k) 0, g (13 + 2 * k) 1, g (13 + 2 * k) 2, g (14 + 2 * k) 0, g (14 + 2 * k) 1, g (14 + 2 * k) 2, g (14 + 2 * k) 3) = l.getD k yD
def yC3 (g : Nat → Nat → Int) (l : List yR) : Prop := g 98 1 = l.length ∧ l.length ≤ 512 ∧ ∀ k, k < l.length → (g 99 (5 * k), g 99 (5 * k + 1), g 99 (5 * k + 2), g 99 (5 * k + 3), g 99 (5 * k + 4)) = l.getD k yE
def yC4 (g : Nat → Nat → Int) (l : List yR) : Prop := g 55 1 = l.length ∧ l.length ≤ 40 ∧ (∀ i, i < l.length → (g (58 + i) 0, g (58 + i) 1, g (58 + i) 2, g (58 + i) 3, g (58 + i) 4) = l.getD i yE) ∧ ∀ i, l.length ≤ i → i < 40 → g (58 + i) 3 = 0 ∧ g (58 + i) 4 = 0
def yC5 (g : Nat → Nat → Int) (l : List Int) : Prop := g 55 3 = l.length ∧ l.length ≤ 512 ∧ ∀ i, i < l.length → g 57 i = l.getD i 0
def yC (g : Nat → Nat → Int) (y : yS) : Prop := yC1 g y.1 ∧ yC2 g y.2.1 ∧ yC3 g y.2.2.1 ∧ yC4 g y.2.2.2.1 ∧ yC5 g y.2.2.2.2
/-- cells that the session's own work leaves alone -/
def yF (g g' : Nat → Nat → Int) : Prop := ∀ a i, (a ≤ 7 ∨ 100 ≤ a ∨ a = 11 ∨ a = 12) → g' a i = g a i
theorem yF.rf : yF g g := fun _ _ _ => rfl
theorem yF.tr {g1 g2 : Nat → Nat → Int} (h1 : yF g g1) (h2 : yF g1 g2) : yF g g2 := fun a i h => (h2 a i h).trans (h1 a i h)
theorem yF.u8 {j : Nat} {z : Int} : yF g (x_uf g 8 j z) := fun a i h => x_uf_ne (by omega)
theorem x_say_ne {p q u w : Int} {b i : Nat} (h : b ≠ v) : x_say v p q u w g b i = g b i := by
  unfold x_say
  rw [x_uf_ne (fun e => h e.1), x_uf_ne (fun e => h e.1), x_uf_ne (fun e => h e.1), x_uf_ne (fun e => h e.1)]
theorem x_bg_ne {t m d : Int} {b i : Nat} (h : b ≠ a) : x_bg a t m d g b i = g b i := by
  unfold x_bg
  rw [x_uf_ne (fun e => h e.1), x_uf_ne (fun e => h e.1), x_uf_ne (fun e => h e.1)]
theorem x_say_v {p q u w : Int} : x_say v p q u w g v 0 = p ∧ x_say v p q u w g v 1 = q ∧ x_say v p q u w g v 2 = u ∧ x_say v p q u w g v 3 = w := by
  unfold x_say
  refine ⟨?_, ?_, ?_, ?_⟩
  · rw [x_uf_ne (by omega), x_uf_ne (by omega), x_uf_ne (by omega), x_uf_eq]
  · rw [x_uf_ne (by omega), x_uf_ne (by omega), x_uf_eq]
  · rw [x_uf_ne (by omega), x_uf_eq]
  · rw [x_uf_eq]
theorem x_bg_v {t m d : Int} : x_bg a t m d g a 0 = t ∧ x_bg a t m d g a 1 = m ∧ x_bg a t m d g a 2 = d := by
  unfold x_bg
  refine ⟨?_, ?_, ?_⟩
  · rw [x_uf_ne (by omega), x_uf_ne (by omega), x_uf_eq]
  · rw [x_uf_ne (by omega), x_uf_eq]
  · rw [x_uf_eq]
/-- a memory that agrees on the cells of a part holds the part -/
theorem yC2.eq {g g' : Nat → Nat → Int} {l : List yM} (h : yC2 g l) (e : ∀ a i, 9 ≤ a → a ≤ 54 → a ≠ 11 → a ≠ 12 → g' a i = g a i) : yC2 g' l := by
  refine ⟨by rw [e 9 2 (by omega) (by omega) (by omega) (by omega)]; exact h.1, fun k h1 h2 => ?_⟩
  rw [← h.2 k h1 h2, e _ _ (by omega) (by omega) (by omega) (by omega), e _ _ (by omega) (by omega) (by omega) (by omega), e _ _ (by omega) (by omega) (by omega) (by omega), e _ _ (by omega) (by omega) (by omega) (by omega), e _ _ (by omega) (by omega) (by omega) (by omega), e _ _ (by omega) (by omega) (by omega) (by omega), e _ _ (by omega) (by omega) (by omega) (by omega)]
theorem yC3.eq {g g' : Nat → Nat → Int} {l : List yR} (h : yC3 g l) (e : ∀ a i, a = 98 ∨ a = 99 → g' a i = g a i) : yC3 g' l := by
  refine ⟨by rw [e _ _ (Or.inl rfl)]; exact h.1, h.2.1, fun k h1 => ?_⟩
  rw [← h.2.2 k h1, e _ _ (Or.inr rfl), e _ _ (Or.inr rfl), e _ _ (Or.inr rfl), e _ _ (Or.inr rfl), e _ _ (Or.inr rfl)]
theorem yC4.eq {g g' : Nat → Nat → Int} {l : List yR} (h : yC4 g l) (e1 : g' 55 1 = g 55 1) (e : ∀ a i, 58 ≤ a → a ≤ 97 → g' a i = g a i) : yC4 g' l := by
  refine ⟨e1.trans h.1, h.2.1, fun i hi => ?_, fun i h1 h2 => ?_⟩
  · have := h.2.1
    rw [← h.2.2.1 i hi, e _ _ (by omega) (by omega), e _ _ (by omega) (by omega), e _ _ (by omega) (by omega), e _ _ (by omega) (by omega), e _ _ (by omega) (by omega)]
  · rw [e _ _ (by omega) (by omega), e _ _ (by omega) (by omega)]
    exact h.2.2.2 i h1 h2
theorem yC5.eq {g g' : Nat → Nat → Int} {l : List Int} (h : yC5 g l) (e1 : g' 55 3 = g 55 3) (e : ∀ i, g' 57 i = g 57 i) : yC5 g' l :=
  ⟨e1.trans h.1, h.2.1, fun i hi => by rw [e]; exact h.2.2 i hi⟩
theorem yC.set {y : yS} {j : Nat} {z : Int} (h : yC g y) : yC (x_uf g 8 j z) (yset y j z) := by
  obtain ⟨h1, h2, h3, h4, h5⟩ := h
  refine ⟨fun i hi1 hi2 => ?_, h2.eq (fun a i _ _ _ _ => x_uf_ne (by omega)), h3.eq (fun a i _ => x_uf_ne (by omega)), h4.eq (x_uf_ne (by omega)) (fun a i _ _ => x_uf_ne (by omega)), h5.eq (x_uf_ne (by omega)) (fun i => x_uf_ne (by omega))⟩
  show x_uf g 8 j z 8 i = if i = j then z else y.1 i
  by_cases e : i = j
  · rw [e, x_uf_eq, if_pos rfl]
  · rw [x_uf_ne (fun q => e q.2), if_neg e]
    exact h1 i hi1 hi2
theorem yC.out {y : yS} {k : Nat} {t m d p q u w : Int} (h : yC g y) (hk : (k : Int) = if g 9 2 < 20 then g 9 2 else 20) : yC (x_say (14 + 2 * k) p q u w (x_bg (13 + 2 * k) t m d (x_uf g 9 2 (g 9 2 + 1)))) (yout y (t, m, d, p, q, u, w)) := by
  obtain ⟨h1, h2, h3, h4, h5⟩ := h
  have hk2 : k ≤ 20 := by split at hk <;> omega
  have e : ∀ b i, b ≠ 13 + 2 * k → b ≠ 14 + 2 * k → ¬ (b = 9 ∧ i = 2) → x_say (14 + 2 * k) p q u w (x_bg (13 + 2 * k) t m d (x_uf g 9 2 (g 9 2 + 1))) b i = g b i := fun b i q1 q2 q3 => by
    rw [x_say_ne q2, x_bg_ne q1, x_uf_ne q3]
  refine ⟨fun i hi1 hi2 => by rw [e _ _ (by omega) (by omega) (by omega)]; exact h1 i hi1 hi2, ⟨?_, fun i hi1 hi2 => ?_⟩, h3.eq (fun a i _ => e _ _ (by omega) (by omega) (by omega)), h4.eq (e _ _ (by omega) (by omega) (by omega)) (fun a i _ _ => e _ _ (by omega) (by omega) (by omega)), h5.eq (e _ _ (by omega) (by omega) (by omega)) (fun i => e _ _ (by omega) (by omega) (by omega))⟩
  · rw [x_say_ne (by omega), x_bg_ne (by omega), x_uf_eq, h2.1]
    show _ = ((y.2.1 ++ [(t, m, d, p, q, u, w)]).length : Int)
    simp
  · show _ = (y.2.1 ++ [(t, m, d, p, q, u, w)]).getD i yD
    have hi3 : i < y.2.1.length + 1 := by
      have : i < (y.2.1 ++ [(t, m, d, p, q, u, w)]).length := hi2
      simpa using this
    have hl := h2.1
    by_cases hik : i = k
    · have hkl : k = y.2.1.length := by split at hk <;> omega
      rw [hik]
      have a1 := x_say_v (v := 14 + 2 * k) (g := x_bg (13 + 2 * k) t m d (x_uf g 9 2 (g 9 2 + 1))) (p := p) (q := q) (u := u) (w := w)
      have a2 := x_bg_v (a := 13 + 2 * k) (g := x_uf g 9 2 (g 9 2 + 1)) (t := t) (m := m) (d := d)
      rw [a1.1, a1.2.1, a1.2.2.1, a1.2.2.2, x_say_ne (by omega), x_say_ne (by omega), x_say_ne (by omega), a2.1, a2.2.1, a2.2.2, hkl]
      simp
    · have hil : i < y.2.1.length := by split at hk <;> omega
      rw [e _ _ (by omega) (by omega) (by omega), e _ _ (by omega) (by omega) (by omega), e _ _ (by omega) (by omega) (by omega), e _ _ (by omega) (by omega) (by omega), e _ _ (by omega) (by omega) (by omega), e _ _ (by omega) (by omega) (by omega), e _ _ (by omega) (by omega) (by omega), h2.2 i hi1 hil]
      simp only [List.getD_eq_getElem?_getD]
      rw [List.getElem?_append_left hil]
theorem yF.out {k : Nat} {t m d p q u w : Int} (hk : k ≤ 20) : yF g (x_say (14 + 2 * k) p q u w (x_bg (13 + 2 * k) t m d (x_uf g 9 2 (g 9 2 + 1)))) := fun a i h => by
  rw [x_say_ne (by omega), x_bg_ne (by omega), x_uf_ne (by omega)]
/-- bounds: every number below B -/
def yB (B : Int) (y : yS) : Prop := (∀ j, 3 ≤ j → j ≤ 11 → 0 ≤ y.1 j ∧ y.1 j ≤ B) ∧ (y.2.1.length : Int) ≤ B ∧ B ≤ 100000000
def ypost (y : yS) (m : yM) : yS := yout (yset y 10 (y.1 7)) m
def ysend (y : yS) (t p q : Int) : yS := yset (ypost y (t, y.1 4, 0, p, q, 0, 0)) 4 (y.1 4 + 1)
theorem yB.set {B : Int} {y : yS} {j : Nat} {z : Int} (h : yB B y) (hz : 0 ≤ z ∧ z ≤ B) : yB B (yset y j z) := by
  refine ⟨fun i h1 h2 => ?_, h.2⟩
  show 0 ≤ (if i = j then z else y.1 i) ∧ (if i = j then z else y.1 i) ≤ B
  split
  · exact hz
  · exact h.1 i h1 h2
theorem yB.up {B B' : Int} {y : yS} (h : yB B y) (hB : B ≤ B') (hB2 : B' ≤ 100000000) : yB B' y := ⟨fun j h1 h2 => by have := h.1 j h1 h2; omega, by have := h.2.1; omega, hB2⟩
theorem yB.out {B : Int} {y : yS} {m : yM} (h : yB B y) (hB : B + 1 ≤ 100000000) : yB (B + 1) (yout y m) := by
  refine ⟨fun j h1 h2 => by have := h.1 j h1 h2; show 0 ≤ y.1 j ∧ y.1 j ≤ B + 1; omega, ?_, hB⟩
  have := h.2.1
  show ((y.2.1 ++ [m]).length : Int) ≤ B + 1
  simp only [List.length_append, List.length_cons, List.length_nil]
  omega
theorem yB.post {B : Int} {y : yS} {m : yM} (h : yB B y) (hB : B + 1 ≤ 100000000) : yB (B + 1) (ypost y m) := (h.set (h.1 7 (by omega) (by omega))).out hB
theorem yB.send {B : Int} {y : yS} {t p q : Int} (h : yB B y) (hB : B + 1 ≤ 100000000) : yB (B + 1) (ysend y t p q) := (h.post hB).set (by have := h.1 4 (by omega) (by omega); omega)
/-- Session.post in memory's words -/
theorem c68 {k : Nat} {t m d : Int} (hc : 0 ≤ g 9 2 ∧ g 9 2 ≤ 2000000000) (hd : d = 0 ∨ d = 1) (hk : (k : Int) = if g 9 2 < 20 then g 9 2 else 20) (h : Q (.inl (some (.ref (13 + 2 * k)))) (x_vm (x_bg (13 + 2 * k) t m d (x_uf (x_uf g 8 10 (g 8 7)) 9 2 (x_uf g 8 10 (g 8 7) 9 2 + 1)))) n) : x_V S 68 0 [some (.ref 8), some (.int (I t)), some (.int (I m)), some (.int (I d)), none] [] (x_vm g) n Q := by
  have e1 : x_uf g 8 10 (g 8 7) 9 2 = g 9 2 := x_uf_ne (by omega)
  have hk2 : k ≤ 20 := by split at hk <;> omega
  have hmk := x_msgk k (by omega)
  have hm1 := hmk.1
  refine s68_0 rfl ?_
  refine s68_1 rfl ?_
  refine s68_2 (by first | assumption | rfl) (by first | assumption | (exact hpo _) | rfl | decide) (by first | assumption | decide | omega) ?_
  refine s68_5 (by first | assumption | rfl) (by first | assumption | (exact hpo _) | rfl | decide) (by first | assumption | decide | omega) ?_
  refine s68_8 rfl ?_
  refine s68_9 (by first | assumption | rfl) (by first | assumption | (exact hpo _) | rfl | decide) ?_
  refine s68_12 (by first | assumption | rfl) (by simp) ?_
  refine c39 (k := k) (by rw [e1]; exact hc) (by rw [e1]; exact hk) ?_
  refine ⟨_, rfl, ?_⟩
  refine s68_15 ?_
  refine s68_17 rfl ?_
  refine s68_19 rfl ?_
  refine s68_20 rfl ?_
  refine s68_21 rfl ?_
  refine s68_22 (by first | assumption | rfl) (by simp) ?_
  refine c22 hmk hd ?_
  refine ⟨_, rfl, ?_⟩
  refine s68_25 rfl ?_
  refine s68_27 (st := []) (by first | exact Or.inl rfl | exact Or.inr ⟨_, rfl⟩) ?_
  exact h
/-- .. and what is said then -/
theorem yC.post {y : yS} {k : Nat} {t m d p q u w : Int} (h : yC g y) (hk : (k : Int) = if g 9 2 < 20 then g 9 2 else 20) : yC (x_say (14 + 2 * k) p q u w (x_bg (13 + 2 * k) t m d (x_uf (x_uf g 8 10 (g 8 7)) 9 2 (x_uf g 8 10 (g 8 7) 9 2 + 1)))) (ypost y (t, m, d, p, q, u, w)) := by
  have e7 := h.1 7 (by omega) (by omega)
  unfold ypost
  rw [← e7]
  exact (h.set (j := 10) (z := g 8 7)).out (by rw [x_uf_ne (by omega)]; exact hk)
theorem yF.post {k : Nat} {t m d p q u w : Int} (hk : k ≤ 20) : yF g (x_say (14 + 2 * k) p q u w (x_bg (13 + 2 * k) t m d (x_uf (x_uf g 8 10 (g 8 7)) 9 2 (x_uf g 8 10 (g 8 7) 9 2 + 1)))) := yF.u8.tr (yF.out hk)
theorem yk (h : 0 ≤ g 9 2) : ∃ k : Nat, k ≤ 20 ∧ (k : Int) = if g 9 2 < 20 then g 9 2 else 20 := by
  by_cases q : g 9 2 < 20
  · exact ⟨(g 9 2).toNat, by omega, by rw [if_pos q]; omega⟩
  · exact ⟨20, by omega, by rw [if_neg q]; rfl⟩
theorem c65 {y : yS} {t p q B : Int} (hC : yC g y) (hB : yB B y) (h : ∀ g', yC g' (ysend y t p q) → yF g g' → Q (.inl none) (x_vm g') n) : x_V S 65 0 [some (.ref 8), some (.int (I t)), some (.int (I p)), some (.int (I q))] [] (x_vm g) n Q := by
  have e4 := hC.1 4 (by omega) (by omega)
  have e92 := hC.2.1.1
  have hb2 := hB.2.1
  have hb3 := hB.2.2
  obtain ⟨k, hk2, hk⟩ := yk (g := g) (by omega)
  have hmk := x_msgk k (by omega)
  have hm1 := hmk.1
  refine s65_0 rfl ?_
  refine s65_1 rfl ?_
  refine s65_2 rfl ?_
  refine s65_3 (by first | assumption | rfl) (by first | assumption | (exact hpo _) | rfl | decide) (by first | assumption | decide | omega) ?_
  refine s65_6 ?_
  refine s65_7 (by first | assumption | rfl) (by simp) ?_
  refine c68 (k := k) ⟨by omega, by omega⟩ (Or.inl rfl) hk ?_
  refine ⟨_, rfl, ?_⟩
  refine s65_10 rfl ?_
  refine s65_11 rfl ?_
  refine s65_12 ?_
  refine s65_13 ?_
  refine s65_14 (by first | assumption | rfl) (by simp) ?_
  refine c23 hmk ?_
  refine ⟨_, rfl, ?_⟩
  refine s65_17 rfl ?_
  refine s65_18 rfl ?_
  refine s65_19 (by first | assumption | rfl) (by first | assumption | (exact hpo _) | rfl | decide) (by first | assumption | decide | omega) ?_
  refine s65_22 ?_
  refine s65_23 ?_
  refine s65_24 (by first | assumption | rfl) (by first | assumption | (exact hpo _) | rfl | decide) (by first | assumption | decide | omega) ?_
  refine s65_27 (st := []) ?_
  have e5 : ∀ (p q u w t m d : Int) , x_say (14 + 2 * k) p q u w (x_bg (13 + 2 * k) t m d (x_uf (x_uf g 8 10 (g 8 7)) 9 2 (x_uf g 8 10 (g 8 7) 9 2 + 1))) 8 4 = y.1 4 := fun p q u w t m d => by
    rw [x_say_ne (by omega), x_bg_ne (by omega), x_uf_ne (by omega), x_uf_ne (by omega)]
    exact e4
  rw [e5, e4]
  exact h _ ((hC.post hk).set) ((yF.post hk2).tr yF.u8)
end CS
