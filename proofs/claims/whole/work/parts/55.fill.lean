/-! 55.fill: the reference's fill. -/
section ML
variable {S : Nat × (Nat → Int32)} {μ : xM} {g : Nat → Nat → Int} {n : Nat} {Q : xQ} {y : yS} {B : Int} {bs : List Int}
theorem rC.ord {g' : Nat → Nat → Int} {l : List yR} (h : rC g y) (e : ∀ a i, (a < 109 ∨ 113 < a) → ¬ (a = 100 ∧ i = 29) → g' a i = g a i) (h4 : rC4 g' l) : rC g' (ybook y l y.2.2.2.2) :=
  ⟨fun j q1 q2 => by have := mf_b q1 q2; rw [e _ _ (by omega) (by omega)]; exact h.1 j q1 q2, h.2.1.eq (e _ _ (by omega) (by omega)) (fun a i q => e _ _ (by omega) (by omega)), h.2.2.1.eq (fun a i q => e _ _ (by omega) (by omega)), h4, h.2.2.2.2.eq (e _ _ (by omega) (by omega)) (fun i => e _ _ (by omega) (by omega))⟩
theorem rC4.put {g' : Nat → Nat → Int} {l : List yR} {k : Nat} {r : yR} (h : rC4 g l) (hk : k < l.length) (e0 : g' 100 29 = g 100 29) (er : (g' 109 k, g' 110 k, g' 111 k, g' 112 k, g' 113 k) = r) (e : ∀ a i, 109 ≤ a ∧ a ≤ 113 → i ≠ k → g' a i = g a i) : rC4 g' (l.set k r) := by
  refine ⟨by rw [e0, List.length_set]; exact h.1, by rw [List.length_set]; exact h.2.1, fun i hi => ?_⟩
  rw [List.length_set] at hi
  rw [ygd_set hk]
  by_cases c : i = k
  · rw [if_pos c, c]; exact er
  · rw [if_neg c, e _ _ (by omega) c, e _ _ (by omega) c, e _ _ (by omega) c, e _ _ (by omega) c, e _ _ (by omega) c]
    exact h.2.2 i hi
theorem yO.fil {k : Nat} {q : Int} (h : yO y) (hk : k < y.2.2.2.1.length) (hq : 1 ≤ q ∧ q ≤ (y.2.2.2.1.getD k yE).2.2.1 - (y.2.2.2.1.getD k yE).2.2.2.1) : yO (ybook y (y.2.2.2.1.set k (yfil (y.2.2.2.1.getD k yE) q)) y.2.2.2.2) := by
  have hg : ∀ i, (y.2.2.2.1.set k (yfil (y.2.2.2.1.getD k yE) q)).getD i yE = if i = k then yfil (y.2.2.2.1.getD k yE) q else y.2.2.2.1.getD i yE := fun i => ygd_set hk
  have id : ∀ i, ((y.2.2.2.1.set k (yfil (y.2.2.2.1.getD k yE) q)).getD i yE).1 = (y.2.2.2.1.getD i yE).1 := fun i => by
    rw [hg]
    by_cases c : i = k
    · rw [if_pos c, c]; rfl
    · rw [if_neg c]
  refine ⟨fun i hi => ?_, fun i j hi hj e => ?_, h.2.2⟩
  · have hi2 : i < (y.2.2.2.1.set k (yfil (y.2.2.2.1.getD k yE) q)).length := hi
    rw [List.length_set] at hi2
    have hr := h.1 i hi2
    show (0 ≤ ((y.2.2.2.1.set k (yfil (y.2.2.2.1.getD k yE) q)).getD i yE).1 ∧ _) ∧ _
    have hgi := hg i
    have hii := id i
    by_cases c : i = k
    · rw [if_pos c] at hgi
      rw [c] at hr hgi
      have z : (ybook y (y.2.2.2.1.set k (yfil (y.2.2.2.1.getD k yE) q)) y.2.2.2.2).2.2.2.1.getD i yE = yfil (y.2.2.2.1.getD k yE) q := by rw [c]; exact hgi
      have z2 : (y.2.2.2.1.set k (yfil (y.2.2.2.1.getD k yE) q)).getD i yE = yfil (y.2.2.2.1.getD k yE) q := z
      rw [z, z2]
      exact ⟨hr.1, hr.2.1, hr.2.2.1, (show 0 ≤ (y.2.2.2.1.getD k yE).2.2.2.1 + q ∧ (y.2.2.2.1.getD k yE).2.2.2.1 + q ≤ (y.2.2.2.1.getD k yE).2.2.1 by omega), hr.2.2.2.2.1, hr.2.2.2.2.2⟩
    · rw [if_neg c] at hgi
      have z : (ybook y (y.2.2.2.1.set k (yfil (y.2.2.2.1.getD k yE) q)) y.2.2.2.2).2.2.2.1.getD i yE = y.2.2.2.1.getD i yE := hgi
      rw [z, hgi]
      exact hr
  · have hi2 : i < (y.2.2.2.1.set k (yfil (y.2.2.2.1.getD k yE) q)).length := hi
    have hj2 : j < (y.2.2.2.1.set k (yfil (y.2.2.2.1.getD k yE) q)).length := hj
    rw [List.length_set] at hi2 hj2
    have e2 : ((y.2.2.2.1.set k (yfil (y.2.2.2.1.getD k yE) q)).getD i yE).1 = ((y.2.2.2.1.set k (yfil (y.2.2.2.1.getD k yE) q)).getD j yE).1 := e
    rw [id, id] at e2
    exact h.2.1 i j hi2 hj2 e2
theorem c123 {w q : Int} (hZ : sC g y bs) (hP : rP (yclr y)) (hO : yO y) (hw : ib w) (hq : ib q)
    (hT : yopen y.2.2.2.1 w = y.2.2.2.1.length → ∀ g', sC g' y bs → sF g g' → g' 100 0 = 1 → Q (.inl (some (.int (I 0)))) (x_vm g') n)
    (hU : yopen y.2.2.2.1 w < y.2.2.2.1.length → ¬ (1 ≤ q ∧ q ≤ (y.2.2.2.1.getD (yopen y.2.2.2.1 w) yE).2.2.1 - (y.2.2.2.1.getD (yopen y.2.2.2.1 w) yE).2.2.2.1) → ∀ g', sC g' y bs → sF g g' → g' 100 0 = 2 → Q (.inl (some (.int (I 0)))) (x_vm g') n)
    (hR : yopen y.2.2.2.1 w < y.2.2.2.1.length → (1 ≤ q ∧ q ≤ (y.2.2.2.1.getD (yopen y.2.2.2.1 w) yE).2.2.1 - (y.2.2.2.1.getD (yopen y.2.2.2.1 w) yE).2.2.2.1) → ∀ g', sC g' (yfill (yclr y) w q) bs → sF g g' → g' 100 0 = 0 → Q (.inl (some (.int (I ((y.2.2.2.1.getD (yopen y.2.2.2.1 w) yE).2.2.2.1 + q))))) (x_vm g') n) : x_V S 123 0 [some (.ref 100), some (.int (I w)), some (.int (I q)), none] [] (x_vm g) n Q := by
  obtain ⟨q1, q2⟩ := hq
  have hth := fun c : Int => hZ.thr (c := c)
  have hZ0 := hZ.th0
  have hF0 : sF g (x_uf g 100 0 0) := sF.u
  have hF1 : ∀ c : Int, sF g (x_uf (x_uf g 100 0 0) 100 0 c) := fun c => sF.u.tr sF.u
  have v1 : ∀ c : Int, x_uf (x_uf g 100 0 0) 100 0 c 100 0 = c := fun c => x_uf_eq _ _ _ _
  have v0 : x_uf g 100 0 0 100 0 = 0 := x_uf_eq _ _ _ _
  refine s123_0 rfl ?_
  refine s123_1 ?_
  refine s123_2 rfl rfl (by decide) ?_
  generalize x_uf g 100 0 0 = g1 at hth hZ0 hF0 hF1 v1 v0 ⊢
  have h40 := hZ0.1.2.2.2.1.2.1
  refine s123_5 rfl ?_
  refine s123_6 rfl ?_
  refine s123_7 rfl (by simp) ?_
  refine c114 hZ0.1 hO hw ?_
  refine ⟨_, rfl, ?_⟩
  by_cases hk : yopen y.2.2.2.1 w < y.2.2.2.1.length
  · rw [if_pos hk]
    have hU := hU hk
    have hR := hR hk
    have hop : yop w (y.2.2.2.1.getD (yopen y.2.2.2.1 w) yE) = true := by
      have := List.findIdx_getElem (xs := y.2.2.2.1) (p := yop w) (w := hk)
      rw [List.getD_eq_getElem?_getD, List.getElem?_eq_getElem hk]
      exact this
    have hid := (of_decide_eq_true hop).1
    unfold yfill at hR
    have hlk : (yclr y).2.2.2.1 = y.2.2.2.1 := rfl
    rw [hlk] at hR
    generalize yopen y.2.2.2.1 w = k at hk hU hR hid hop
    obtain ⟨a0, a1, a2, a3, a4⟩ := hZ0.1.2.2.2.1.at hk
    have hb := hO.1 k hk
    refine s123_10 ?_
    refine s123_11 rfl ?_
    refine s123_12 ⟨by omega, by omega⟩ (fun h12 => ?_) (fun h12 => ?_)
    · refine s123_21 rfl ?_
      refine s123_22 ?_
      refine s123_23 ⟨by omega, by omega⟩ ⟨by omega, by omega⟩ (fun h23 => ?_) (fun h23 => ?_)
      · refine s123_43 rfl ?_
        refine s123_44 ?_
        refine s123_45 (by first | assumption | rfl) (by simp) ?_
        refine c85 ?_
        refine ⟨_, rfl, ?_⟩
        refine s123_48 (st := []) ?_
        exact hU (by omega) _ (hth 2) (hF1 2) (v1 2)
      · refine s123_26 rfl ?_
        refine s123_27 rfl ?_
        refine s123_28 (by first | assumption | rfl) (by first | assumption | (exact hpo _) | rfl | decide) ?_
        refine s123_31 rfl ?_
        refine v_iald d123_32 (by first | assumption | rfl) (by omega) (by omega) (by omega) (by first | assumption | (exact hpo _) | rfl | decide) (by first | assumption | decide | omega) ?_
        rw [Int.toNat_natCast, a2]
        refine s123_33 rfl ?_
        refine s123_34 (by first | assumption | rfl) (by first | assumption | (exact hpo _) | rfl | decide) ?_
        refine s123_37 rfl ?_
        refine v_iald d123_38 (by first | assumption | rfl) (by omega) (by omega) (by omega) (by first | assumption | (exact hpo _) | rfl | decide) (by first | assumption | decide | omega) ?_
        rw [Int.toNat_natCast, a3]
        refine s123_39 ?_
        refine s123_40 ⟨by omega, by omega⟩ ⟨by omega, by omega⟩ (fun h40 => ?_) (fun h40 => ?_)
        · have hqq : 1 ≤ q ∧ q ≤ (y.2.2.2.1.getD k yE).2.2.1 - (y.2.2.2.1.getD k yE).2.2.2.1 := ⟨by omega, by omega⟩
          have hO2 : yO (ybook (yclr y) (y.2.2.2.1.set k (yfil (y.2.2.2.1.getD k yE) q)) y.2.2.2.2) := hO.fil hk hqq
          have b3 : x_uf g1 100 15 0 112 k = (y.2.2.2.1.getD k yE).2.2.2.1 := by rw [x_uf_ne (by omega)]; exact a3
          have hC2 : rC (x_uf (x_uf g1 100 15 0) 112 k ((y.2.2.2.1.getD k yE).2.2.2.1 + q)) (ybook (yclr y) (y.2.2.2.1.set k (yfil (y.2.2.2.1.getD k yE) q)) y.2.2.2.2) := by
            refine rC.ord hZ0.1.clr (fun a i z1 z2 => x_uf_ne (by omega)) (rC4.put (g := x_uf g1 100 15 0) hZ0.1.clr.2.2.2.1 hk (x_uf_ne (by omega)) ?_ (fun a i z1 z2 => x_uf_ne (by omega)))
            rw [x_uf_ne (by omega), x_uf_ne (by omega), x_uf_ne (by omega), x_uf_eq, x_uf_ne (by omega), x_uf_ne (by omega), x_uf_ne (by omega), x_uf_ne (by omega), x_uf_ne (by omega), a0, a1, a2, a4]
            rfl
          have hP2 : rP (ybook (yclr y) (y.2.2.2.1.set k (yfil (y.2.2.2.1.getD k yE) q)) y.2.2.2.2) := hP
          have hF2 : ∀ a i, a ≤ 100 → ¬ (a = 100 ∧ i = 15) → x_uf (x_uf g1 100 15 0) 112 k ((y.2.2.2.1.getD k yE).2.2.2.1 + q) a i = g1 a i := fun a i z1 z2 => by rw [x_uf_ne (by omega), x_uf_ne (by omega)]
          have hF3 : ∀ a i, (a < 105 ∨ 115 ≤ a) → ¬ (a = 100 ∧ i = 15) → x_uf (x_uf g1 100 15 0) 112 k ((y.2.2.2.1.getD k yE).2.2.2.1 + q) a i = g1 a i := fun a i z1 z2 => by rw [x_uf_ne (by omega), x_uf_ne (by omega)]
          have hg2 : (ybook (yclr y) (y.2.2.2.1.set k (yfil (y.2.2.2.1.getD k yE) q)) y.2.2.2.2).2.2.2.1.getD k yE = yfil (y.2.2.2.1.getD k yE) q := by
            show (y.2.2.2.1.set k _).getD k yE = _
            rw [ygd_set hk, if_pos rfl]
          have hk2 : k < (ybook (yclr y) (y.2.2.2.1.set k (yfil (y.2.2.2.1.getD k yE) q)) y.2.2.2.2).2.2.2.1.length := by
            show k < (y.2.2.2.1.set k _).length
            rw [List.length_set]; exact hk
          have hR := hR hqq
          refine s123_49 rfl ?_
          refine s123_50 ?_
          refine s123_51 (by first | assumption | rfl) (by first | assumption | (exact hpo _) | rfl | decide) (by first | assumption | decide | omega) ?_
          refine s123_54 rfl ?_
          refine s123_55 (by first | assumption | rfl) (by first | assumption | (exact hpo _) | rfl | decide) ?_
          refine s123_58 rfl ?_
          refine s123_59 rfl rfl ?_
          refine v_iald d123_60 (by first | assumption | rfl) (by omega) (by omega) (by omega) (by first | assumption | (exact hpo _) | rfl | decide) (by first | assumption | decide | omega) ?_
          rw [Int.toNat_natCast, b3]
          refine s123_61 rfl ?_
          refine s123_62 ?_
          refine v_iast d123_63 (by first | assumption | rfl) (by omega) (by omega) (by omega) (by first | assumption | (exact hpo _) | rfl | decide) (by first | assumption | decide | omega) ?_
          rw [Int.toNat_natCast]
          generalize x_uf (x_uf g1 100 15 0) 112 k ((y.2.2.2.1.getD k yE).2.2.2.1 + q) = g2 at hC2 hF2 hF3
          refine s123_64 rfl ?_
          refine s123_65 rfl ?_
          refine s123_66 (by first | assumption | rfl) (by simp) ?_
          refine c115 hC2 hP2 hO2 hk2 (fun g3 c3 hF4 => ?_)
          refine ⟨_, rfl, ?_⟩
          rw [hg2] at c3
          rw [show (yfil (y.2.2.2.1.getD k yE) q).1 = w from hid] at c3
          have e3 : g3 112 k = (y.2.2.2.1.getD k yE).2.2.2.1 + q := by
            have z := c3.2.2.2.1
            rw [yrep_2] at z
            have z2 := (rC4.at z (i := k) hk2).2.2.2.1
            rw [hg2] at z2
            exact z2
          refine s123_69 rfl ?_
          refine s123_70 (by first | assumption | rfl) (by first | assumption | (exact hpo _) | rfl | decide) ?_
          refine s123_73 rfl ?_
          refine v_iald d123_74 (by first | assumption | rfl) (by omega) (by omega) (by omega) (by first | assumption | (exact hpo _) | rfl | decide) (by first | assumption | decide | omega) ?_
          rw [Int.toNat_natCast, e3]
          refine s123_75 (st := []) ?_
          exact hR _ ⟨c3, (hZ0.2.eq (fun i z => hF3 _ _ (by omega) (by omega)) (fun i => hF3 _ _ (by omega) (by omega))).f hF4⟩ (hF0.tr (fun a i z => by rw [hF4 _ _ (by omega)]; exact hF3 _ _ (by omega) (by omega))) (by rw [hF4 _ _ (by omega), hF2 _ _ (by omega) (by omega)]; exact v0)
        · refine s123_43 rfl ?_
          refine s123_44 ?_
          refine s123_45 (by first | assumption | rfl) (by simp) ?_
          refine c85 ?_
          refine ⟨_, rfl, ?_⟩
          refine s123_48 (st := []) ?_
          exact hU (by omega) _ (hth 2) (hF1 2) (v1 2)
    · exfalso; omega
  · rw [if_neg hk]
    have hk2 : yopen y.2.2.2.1 w = y.2.2.2.1.length := by
      have : yopen y.2.2.2.1 w ≤ y.2.2.2.1.length := List.findIdx_le_length
      omega
    have hT := hT hk2
    refine s123_10 ?_
    refine s123_11 rfl ?_
    refine s123_12 ⟨by omega, by omega⟩ (fun h12 => ?_) (fun h12 => ?_)
    · exfalso; omega
    · refine s123_15 rfl ?_
      refine s123_16 ?_
      refine s123_17 (by first | assumption | rfl) (by simp) ?_
      refine c85 ?_
      refine ⟨_, rfl, ?_⟩
      refine s123_20 (st := []) ?_
      exact hT _ (hth 1) (hF1 1) (v1 1)
end ML
