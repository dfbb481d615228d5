/-! 58.orderMessage: the reference takes an order message. -/
section ML
variable {S : Nat × (Nat → Int32)} {μ : xM} {g : Nat → Nat → Int} {n : Nat} {Q : xQ} {y : yS} {B : Int} {bs : List Int}
theorem rC.bk {gm : Nat → Nat → Int} {l : List yR} {u : Nat} {x : Int} (h : rC g y) (hu : y.2.2.2.2.length = u) (hu2 : u < 512) (h4 : rC4 gm l) (e : ∀ a i, (a < 109 ∨ 113 < a) → ¬ (a = 100 ∧ i = 29) → gm a i = g a i) : rC (x_uf (x_uf gm 114 u x) 100 35 (u + 1)) (ybook y l (y.2.2.2.2 ++ [x])) := by
  have e2 : ∀ a i, a ≠ 114 → ¬ (a = 100 ∧ i = 35) → x_uf (x_uf gm 114 u x) 100 35 (u + 1) a i = gm a i := fun a i q1 q2 => by rw [x_uf_ne q2, x_uf_ne (fun z => q1 z.1)]
  have e3 : ∀ a i, (a < 109 ∨ 113 < a) → ¬ (a = 100 ∧ i = 29) → a ≠ 114 → ¬ (a = 100 ∧ i = 35) → x_uf (x_uf gm 114 u x) 100 35 (u + 1) a i = g a i := fun a i q1 q2 q3 q4 => (e2 a i q3 q4).trans (e a i q1 q2)
  refine ⟨fun j q1 q2 => by have := mf_b q1 q2; rw [e3 _ _ (by omega) (by omega) (by omega) (by omega)]; exact h.1 j q1 q2, h.2.1.eq (e3 _ _ (by omega) (by omega) (by omega) (by omega)) (fun a i q => e3 _ _ (by omega) (by omega) (by omega) (by omega)), h.2.2.1.eq (fun a i q => e3 _ _ (by omega) (by omega) (by omega) (by omega)), h4.eq (e2 _ _ (by omega) (by omega)) (fun a i q => e2 _ _ (by omega) (by omega)), ⟨?_, ?_, fun i hi => ?_⟩⟩
  · show x_uf (x_uf gm 114 u x) 100 35 (u + 1) 100 35 = ((y.2.2.2.2 ++ [x]).length : Int)
    rw [x_uf_eq, ylen_app, hu]
    rfl
  · show (y.2.2.2.2 ++ [x]).length ≤ 512
    rw [ylen_app, hu]
    exact hu2
  · have hi : i < (y.2.2.2.2 ++ [x]).length := hi
    rw [ylen_app] at hi
    show x_uf (x_uf gm 114 u x) 100 35 (u + 1) 114 i = (y.2.2.2.2 ++ [x]).getD i 0
    rw [ygd_app, x_uf_ne (by omega)]
    by_cases q : i < y.2.2.2.2.length
    · rw [if_pos q, x_uf_ne (by omega), e _ _ (by omega) (by omega)]
      exact h.2.2.2.2.2.2 i q
    · rw [if_neg q, if_pos (by omega), show i = u by omega, x_uf_eq]
theorem yO.carry {t a b c : Int} {k : Nat} {y' : yS} (h : yO y) (ha : 0 ≤ a ∧ a ≤ 999999) (hb : 0 ≤ b ∧ b ≤ 999999) (hc : t = 68 ∨ t = 71 → 0 ≤ c ∧ c ≤ 999999) (ht : t = 68 ∨ t = 70 ∨ t = 71) (q : ycarry y t a b c = some (k, y')) : yO y' := by
  unfold ycarry at q
  by_cases z1 : a = 0 ∨ a ∈ y.2.2.2.2
  · rw [if_pos z1] at q; cases q
  · rw [if_neg z1] at q
    have za : a ∉ y.2.2.2.2 := fun z => z1 (Or.inr z)
    have used : ∀ u, u ∈ y.2.2.2.2 ++ [a] → 0 ≤ u ∧ u ≤ 999999 := fun u hu => by
      rcases List.mem_append.1 hu with w | w
      · exact h.2.2 u w
      · rw [List.mem_singleton.1 w]; exact ha
    -- a list of orders whose k-th is r, with the new id, the others as before
    have key : ∀ (l : List yR) (k : Nat) (r : yR), (∀ i, i < l.length → i ≠ k → i < y.2.2.2.1.length ∧ l.getD i yE = y.2.2.2.1.getD i yE) → l.getD k yE = r → r.1 = a → (0 ≤ r.2.1 ∧ r.2.1 ≤ 2) → r.2.2.1 ≤ 999999 → (0 ≤ r.2.2.2.1 ∧ r.2.2.2.1 ≤ r.2.2.1) → (r.2.2.2.2 = 0 ∨ r.2.2.2.2 = 1) → yO (ybook y l (y.2.2.2.2 ++ [a])) := by
      intro l k r e1 e2 r1 r2 r3 r4 r5
      refine ⟨fun i hi => ?_, fun i j hi hj e => ?_, used⟩
      · have hi : i < l.length := hi
        show (0 ≤ (l.getD i yE).1 ∧ (l.getD i yE).1 ≤ 999999) ∧ (0 ≤ (l.getD i yE).2.1 ∧ (l.getD i yE).2.1 ≤ 2) ∧ (l.getD i yE).2.2.1 ≤ 999999 ∧ (0 ≤ (l.getD i yE).2.2.2.1 ∧ (l.getD i yE).2.2.2.1 ≤ (l.getD i yE).2.2.1) ∧ ((l.getD i yE).2.2.2.2 = 0 ∨ (l.getD i yE).2.2.2.2 = 1) ∧ (l.getD i yE).1 ∈ y.2.2.2.2 ++ [a]
        by_cases c : i = k
        · rw [c, e2, r1]
          exact ⟨ha, r2, r3, r4, r5, List.mem_append_right _ (List.mem_singleton.2 rfl)⟩
        · obtain ⟨w1, w2⟩ := e1 i hi c
          rw [w2]
          obtain ⟨v1, v2, v3, v4, v5, v6⟩ := h.1 i w1
          exact ⟨v1, v2, v3, v4, v5, List.mem_append_left _ v6⟩
      · have hi : i < l.length := hi
        have hj : j < l.length := hj
        have e : (l.getD i yE).1 = (l.getD j yE).1 := e
        by_cases c : i = k
        · by_cases c2 : j = k
          · omega
          · exfalso
            obtain ⟨w1, w2⟩ := e1 j hj c2
            rw [c, e2, r1, w2] at e
            exact za (by rw [e]; exact (h.1 j w1).2.2.2.2.2)
        · obtain ⟨w1, w2⟩ := e1 i hi c
          by_cases c2 : j = k
          · exfalso
            rw [c2, e2, r1, w2] at e
            exact za (by rw [← e]; exact (h.1 i w1).2.2.2.2.2)
          · obtain ⟨w3, w4⟩ := e1 j hj c2
            rw [w2, w4] at e
            exact h.2.1 i j w1 w3 e
    by_cases z2 : t = 68
    · rw [if_pos z2] at q
      by_cases z3 : b < 1 ∨ 2 < b ∨ c = 0 ∨ 40 ≤ y.2.2.2.1.length
      · rw [if_pos z3] at q; cases q
      · rw [if_neg z3] at q
        cases q
        have hcc := hc (Or.inl z2)
        refine key _ y.2.2.2.1.length (a, b, c, 0, 0) (fun i hi hik => ?_) ?_ rfl (show 0 ≤ b ∧ b ≤ 2 by omega) hcc.2 (show (0 : Int) ≤ 0 ∧ 0 ≤ c by omega) (Or.inl rfl)
        · rw [ylen_app] at hi
          exact ⟨by omega, by rw [ygd_app, if_pos (by omega)]⟩
        · rw [ygd_app, if_neg (Nat.lt_irrefl _), if_pos rfl]
    · rw [if_neg z2] at q
      by_cases z3 : yopen y.2.2.2.1 b = y.2.2.2.1.length ∨ (t ≠ 70 ∧ c ≤ (y.2.2.2.1.getD (yopen y.2.2.2.1 b) yE).2.2.2.1)
      · rw [if_pos z3] at q; cases q
      · rw [if_neg z3] at q
        cases q
        have hk : yopen y.2.2.2.1 b < y.2.2.2.1.length := by
          have : yopen y.2.2.2.1 b ≤ y.2.2.2.1.length := List.findIdx_le_length
          omega
        obtain ⟨v1, v2, v3, v4, v5, v6⟩ := h.1 _ hk
        refine key _ (yopen y.2.2.2.1 b) (yamend (y.2.2.2.1.getD (yopen y.2.2.2.1 b) yE) t a c) (fun i hi hik => ?_) ?_ rfl v2 ?_ ?_ ?_
        · rw [List.length_set] at hi
          exact ⟨hi, by rw [ygd_set hk, if_neg hik]⟩
        · rw [ygd_set hk, if_pos rfl]
        · show (if t = 70 then _ else c) ≤ 999999
          split
          · exact v3
          · exact (hc (by omega)).2
        · show 0 ≤ (y.2.2.2.1.getD (yopen y.2.2.2.1 b) yE).2.2.2.1 ∧ (y.2.2.2.1.getD (yopen y.2.2.2.1 b) yE).2.2.2.1 ≤ (if t = 70 then (y.2.2.2.1.getD (yopen y.2.2.2.1 b) yE).2.2.1 else c)
          split
          · exact v4
          · omega
        · show (if t = 70 then (1 : Int) else _) = 0 ∨ (if t = 70 then (1 : Int) else _) = 1
          split
          · exact Or.inr rfl
          · exact v5
end ML
