/-! 55.fill: the reference's fill. -/
section ML
variable {S : Nat × (Nat → Int32)} {μ : xM} {g : Nat → Nat → Int} {n : Nat} {Q : xQ} {y : yS} {B : Int} {bs : List Int}
theorem rC.ord {g' : Nat → Nat → Int} {l : List yR} (h : rC g y) (e : ∀ a i, (a < 109 ∨ 113 < a) → ¬ (a = 100 ∧ i = 29) → g' a i = g a i) (h4 : rC4 g' l) : rC g' (ybook y l y.2.2.2.2) :=
  ⟨fun j q1 q2 => by have := mf_b q1 q2; rw [e _ _ (by omega) (by omega)]; exact h.1 j q1 q2, h.2.1.eq (e _ _ (by omega) (by omega)) (fun a i q => e _ _ (by omega) (by omega)), h.2.2.1.eq (fun a i q => e _ _ (by omega) (by omega)), h4, h.2.2.2.2.eq (e _ _ (by omega) (by omega)) (fun i => e _ _ (by omega) (by omega))⟩
theorem rC4.put {g' : Nat → Nat → Int} {l : List yR} {k : Nat} {r : yR} (h : rC4 g l) (hk : k < l.length) (e0 : g' 100 29 = g 100 29) (er : (g' 109 k, g' 110 k, g' 111 k, g' 112 k, g' 113 k) = r) (e : ∀ a i, 109 ≤ a ∧ a ≤ 113 → i ≠ k → g' a i = g a i) : rC4 g' (l.set k r) := by
  refine ⟨by rw [e0, List.length_set]; exact h.1, by rw [List.length_set]; exact h.2.1, fun i hi => ?_⟩
  rw [List.length_set] at hi
  rw [ygd_set hk]
  by_cases c : i = k
  · rw [if_pos c, c]; exact er
  · rw [if_neg c, e _ _ (by omega) c, e _ _ (by omega) c, e _ _ (by omega) c, e _ _ (by omega) c, e _ _ (by omega) c]
    exact h.2.2 i hi
theorem yO.fil {k : Nat} {q : Int} (h : yO y) (hk : k < y.2.2.2.1.length) (hq : 1 ≤ q ∧ q ≤ (y.2.2.2.1.getD k yE).2.2.1 - (y.2.2.2.1.getD k yE).2.2.2.1) : yO (ybook y (y.2.2.2.1.set k (yfil (y.2.2.2.1.getD k yE) q)) y.2.2.2.2) := by
  have hg : ∀ i, (y.2.2.2.1.set k (yfil (y.2.2.2.1.getD k yE) q)).getD i yE = if i = k then yfil (y.2.2.2.1.getD k yE) q else y.2.2.2.1.getD i yE := fun i => ygd_set hk
  have id : ∀ i, ((y.2.2.2.1.set k (yfil (y.2.2.2.1.getD k yE) q)).getD i yE).1 = (y.2.2.2.1.getD i yE).1 := fun i => by
    rw [hg]
    by_cases c : i = k
    · rw [if_pos c, c]; rfl
    · rw [if_neg c]
  refine ⟨fun i hi => ?_, fun i j hi hj e => ?_, h.2.2⟩
  · have hi2 : i < (y.2.2.2.1.set k (yfil (y.2.2.2.1.getD k yE) q)).length := hi
    rw [List.length_set] at hi2
    have hr := h.1 i hi2
    show (0 ≤ ((y.2.2.2.1.set k (yfil (y.2.2.2.1.getD k yE) q)).getD i yE).1 ∧ _) ∧ _
    have hgi := hg i
    have hii := id i
    by_cases c : i = k
    · rw [if_pos c] at hgi
      rw [c] at hr hgi
      have z : (ybook y (y.2.2.2.1.set k (yfil (y.2.2.2.1.getD k yE) q)) y.2.2.2.2).2.2.2.1.getD i yE = yfil (y.2.2.2.1.getD k yE) q := by rw [c]; exact hgi
      have z2 : (y.2.2.2.1.set k (yfil (y.2.2.2.1.getD k yE) q)).getD i yE = yfil (y.2.2.2.1.getD k yE) q := z
      rw [z, z2]
      exact ⟨hr.1, hr.2.1, hr.2.2.1, (show 0 ≤ (y.2.2.2.1.getD k yE).2.2.2.1 + q ∧ (y.2.2.2.1.getD k yE).2.2.2.1 + q ≤ (y.2.2.2.1.getD k yE).2.2.1 by omega), hr.2.2.2.2.1, hr.2.2.2.2.2⟩
    · rw [if_neg c] at hgi
      have z : (ybook y (y.2.2.2.1.set k (yfil (y.2.2.2.1.getD k yE) q)) y.2.2.2.2).2.2.2.1.getD i yE = y.2.2.2.1.getD i yE := hgi
      rw [z, hgi]
      exact hr
  · have hi2 : i < (y.2.2.2.1.set k (yfil (y.2.2.2.1.getD k yE) q)).length := hi
    have hj2 : j < (y.2.2.2.1.set k (yfil (y.2.2.2.1.getD k yE) q)).length := hj
    rw [List.length_set] at hi2 hj2
    have e2 : ((y.2.2.2.1.set k (yfil (y.2.2.2.1.getD k yE) q)).getD i yE).1 = ((y.2.2.2.1.set k (yfil (y.2.2.2.1.getD k yE) q)).getD j yE).1 := e
    rw [id, id] at e2
    exact h.2.1 i j hi2 hj2 e2
end ML
