/-! 58.orderMessage: the reference takes an order message. -/
section ML
variable {S : Nat × (Nat → Int32)} {μ : xM} {g : Nat → Nat → Int} {n : Nat} {Q : xQ} {y : yS} {B : Int} {bs : List Int}
theorem rC.bk {gm : Nat → Nat → Int} {l : List yR} {u : Nat} {x : Int} (h : rC g y) (hu : y.2.2.2.2.length = u) (hu2 : u < 512) (h4 : rC4 gm l) (e : ∀ a i, (a < 109 ∨ 113 < a) → ¬ (a = 100 ∧ i = 29) → gm a i = g a i) : rC (x_uf (x_uf gm 114 u x) 100 35 (u + 1)) (ybook y l (y.2.2.2.2 ++ [x])) := by
  have e2 : ∀ a i, a ≠ 114 → ¬ (a = 100 ∧ i = 35) → x_uf (x_uf gm 114 u x) 100 35 (u + 1) a i = gm a i := fun a i q1 q2 => by rw [x_uf_ne q2, x_uf_ne (fun z => q1 z.1)]
  have e3 : ∀ a i, (a < 109 ∨ 113 < a) → ¬ (a = 100 ∧ i = 29) → a ≠ 114 → ¬ (a = 100 ∧ i = 35) → x_uf (x_uf gm 114 u x) 100 35 (u + 1) a i = g a i := fun a i q1 q2 q3 q4 => (e2 a i q3 q4).trans (e a i q1 q2)
  refine ⟨fun j q1 q2 => by have := mf_b q1 q2; rw [e3 _ _ (by omega) (by omega) (by omega) (by omega)]; exact h.1 j q1 q2, h.2.1.eq (e3 _ _ (by omega) (by omega) (by omega) (by omega)) (fun a i q => e3 _ _ (by omega) (by omega) (by omega) (by omega)), h.2.2.1.eq (fun a i q => e3 _ _ (by omega) (by omega) (by omega) (by omega)), h4.eq (e2 _ _ (by omega) (by omega)) (fun a i q => e2 _ _ (by omega) (by omega)), ⟨?_, ?_, fun i hi => ?_⟩⟩
  · show x_uf (x_uf gm 114 u x) 100 35 (u + 1) 100 35 = ((y.2.2.2.2 ++ [x]).length : Int)
    rw [x_uf_eq, ylen_app, hu]
    rfl
  · show (y.2.2.2.2 ++ [x]).length ≤ 512
    rw [ylen_app, hu]
    exact hu2
  · have hi : i < (y.2.2.2.2 ++ [x]).length := hi
    rw [ylen_app] at hi
    show x_uf (x_uf gm 114 u x) 100 35 (u + 1) 114 i = (y.2.2.2.2 ++ [x]).getD i 0
    rw [ygd_app, x_uf_ne (by omega)]
    by_cases q : i < y.2.2.2.2.length
    · rw [if_pos q, x_uf_ne (by omega), e _ _ (by omega) (by omega)]
      exact h.2.2.2.2.2.2 i q
    · rw [if_neg q, if_pos (by omega), show i = u by omega, x_uf_eq]
end ML
