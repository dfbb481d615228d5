/-! 32.link: contracts of TradeLink, the rest but take. -/
section CM
variable {S : Nat × (Nat → Int32)} {μ : xM} {g : Nat → Nat → Int} {n v : Nat} {Q : xQ} {y : yS} {B : Int} {bs : List Int}
theorem zC.put {i : Nat} {z : Int} (h : zC g y bs) (hi : i < bs.length) (hz : 0 ≤ z ∧ z ≤ 127) : zC (x_uf g 5 i z) y (bs.set i z) := by
  refine ⟨h.1.low (fun a j _ _ _ => x_uf_ne (by omega)), ⟨by rw [x_uf_ne (by omega), List.length_set]; exact h.2.1.1, by rw [List.length_set]; exact h.2.1.2.1, fun j hj => ?_⟩, fun j hj => ?_, fun j hj => by rw [x_uf_ne (by omega)]; exact h.2.2.2.1 j hj, fun j hj => by rw [x_uf_ne (by omega)]; exact h.2.2.2.2 j hj⟩
  · rw [List.length_set] at hj
    rw [ygd_set hi]
    by_cases q : j = i
    · rw [if_pos q, q, x_uf_eq]
    · rw [if_neg q, x_uf_ne (by omega)]
      exact h.2.1.2.2 j hj
  · by_cases q : j = i
    · rw [q, x_uf_eq]; exact hz
    · rw [x_uf_ne (by omega)]; exact h.2.2.1 j hj
theorem zC.app {z : Int} (h : zC g y bs) (hi : bs.length < 120) (hz : 0 ≤ z ∧ z ≤ 127) : zC (x_uf (x_uf g 5 bs.length z) 4 1 (bs.length + 1)) y (bs ++ [z]) := by
  refine ⟨h.1.low (fun a j _ _ _ => by rw [x_uf_ne (by omega), x_uf_ne (by omega)]), ⟨by rw [x_uf_eq, List.length_append]; rfl, by rw [List.length_append]; exact hi, fun j hj => ?_⟩, fun j hj => ?_, fun j hj => by rw [x_uf_ne (by omega), x_uf_ne (by omega)]; exact h.2.2.2.1 j hj, fun j hj => by rw [x_uf_ne (by omega), x_uf_ne (by omega)]; exact h.2.2.2.2 j hj⟩
  · rw [List.length_append, List.length_singleton] at hj
    rw [ygd_app, x_uf_ne (by omega)]
    by_cases q : j < bs.length
    · rw [if_pos q, x_uf_ne (by omega)]
      exact h.2.1.2.2 j q
    · rw [if_neg q, if_pos (by omega), show j = bs.length by omega, x_uf_eq]
  · rw [x_uf_ne (by omega)]
    by_cases q : j = bs.length
    · rw [q, x_uf_eq]; exact hz
    · rw [x_uf_ne (by omega)]; exact h.2.2.1 j hj
/-- exclusive or of two bytes -/
def zx (a x : Int) : Int := (I a ^^^ I x).toInt
theorem zx_d : ∀ a : Fin 128, ∀ x : Fin 128, 0 ≤ zx a x ∧ zx a x ≤ 127 := by decide +kernel
theorem zx_b {a x : Int} (ha : 0 ≤ a ∧ a ≤ 127) (hx : 0 ≤ x ∧ x ≤ 127) : 0 ≤ zx a x ∧ zx a x ≤ 127 := by
  have := zx_d ⟨a.toNat, by omega⟩ ⟨x.toNat, by omega⟩
  have e1 : ((a.toNat : Nat) : Int) = a := by omega
  have e2 : ((x.toNat : Nat) : Int) = x := by omega
  rw [show (((⟨a.toNat, by omega⟩ : Fin 128) : Nat) : Int) = a from e1, show (((⟨x.toNat, by omega⟩ : Fin 128) : Nat) : Int) = x from e2] at this
  exact this
theorem zx_I (a x : Int) : I a ^^^ I x = I (zx a x) := (I_of _).symm
theorem c71 {i x : Int} (hZ : zC g y bs) (hi : ib i) (hx : ib x) (hn : 116 ≤ n ∧ n < 640) (hT : ¬ (0 ≤ i ∧ i < bs.length) → Q (.inr 2) (x_vm g) (n + 1)) (hU : (0 ≤ i ∧ i < bs.length) → ¬ (1 ≤ x ∧ x ≤ 127) → Q (.inr 0) (x_vm g) (n + 1))
    (hR : (0 ≤ i ∧ i < bs.length) → (1 ≤ x ∧ x ≤ 127) → ∀ g', zC g' (yclr y) (bs.set i.toNat (zx (bs.getD i.toNat 0) x)) → zF g g' → Q (.inl (some (.int (I (zx (bs.getD i.toNat 0) x))))) (x_vm g') n) : x_V S 71 0 [some (.ref 2), some (.int (I i)), some (.int (I x))] [] (x_vm g) n Q := by
  have hs := x_shx hn.1
  have hn2 : n < x_NM := hn.2
  have hi2 := hi
  obtain ⟨i1, i2⟩ := hi
  obtain ⟨x1, x2⟩ := hx
  have e41 := hZ.2.1.1
  have hl := hZ.2.1.2.1
  refine s71_0 rfl ?_
  refine s71_1 (by first | assumption | rfl) (by first | assumption | (exact hpo _) | rfl | decide) ?_
  refine s71_4 (by first | assumption | rfl) (by first | assumption | (exact hpo _) | rfl | decide) ?_
  refine s71_7 rfl ?_
  refine s71_8 (by first | assumption | rfl) (by simp) ?_
  refine c8 x_row4 hi2 ⟨by omega, by omega⟩ ?_
  refine ⟨_, rfl, ?_⟩
  rw [e41]
  generalize ez : (if 0 ≤ i ∧ i < (bs.length : Int) then (1 : Int) else 0) = z
  have hz : (z = 0 ∧ ¬ (0 ≤ i ∧ i < bs.length)) ∨ (z = 1 ∧ 0 ≤ i ∧ i < bs.length) := by
    rw [← ez]
    split
    · exact Or.inr ⟨rfl, by assumption⟩
    · exact Or.inl ⟨rfl, by assumption⟩
  refine s71_11 ⟨by omega, by omega⟩ (fun h11 => ?_) (fun h11 => ?_)
  · refine s71_22 rfl ?_
    refine s71_23 ?_
    refine s71_24 ⟨by omega, by omega⟩ ⟨by omega, by omega⟩ (fun h24 => ?_) (fun h24 => ?_)
    · refine s71_33 (by first | assumption | rfl) (by first | assumption | omega) (by simp) ?_
      exact hU (by omega) (by omega)
    · refine s71_27 rfl ?_
      refine s71_28 ?_
      refine s71_30 ⟨by omega, by omega⟩ ⟨by omega, by omega⟩ (fun h30 => ?_) (fun h30 => ?_)
      · refine s71_41 rfl ?_
        refine s71_42 (by first | assumption | rfl) (by first | assumption | (exact hpo _) | rfl | decide) ?_
        refine s71_45 (by first | assumption | rfl) (by first | assumption | (exact hpo _) | rfl | decide) ?_
        refine s71_48 (by first | assumption | rfl) (by simp) ?_
        refine c38 ?_
        refine ⟨_, rfl, ?_⟩
        have hZ1 := hZ.clr
        have hF1 : zF g (x_uf g 9 2 0) := zF.u (by omega)
        generalize x_uf g 9 2 0 = g1 at hZ1 hF1 ⊢
        have e411 := hZ1.2.1.1
        have hv : x_atv g1 4 5 i = bs.getD i.toNat 0 := by
          unfold x_atv
          rw [if_pos ⟨by omega, by omega⟩]
          exact hZ1.2.1.2.2 _ (by omega)
        have hb := hZ1.2.2.1 i.toNat (by omega)
        rw [hZ1.2.1.2.2 _ (by omega)] at hb
        have hzb := zx_b hb (x := x) ⟨by omega, by omega⟩
        have hZ2 := hZ1.put (i := i.toNat) (by omega) hzb
        have hw : x_atv (x_uf g1 5 i.toNat (zx (bs.getD i.toNat 0) x)) 4 5 i = zx (bs.getD i.toNat 0) x := by
          unfold x_atv
          rw [if_pos ⟨by omega, by rw [x_uf_ne (by omega)]; omega⟩, x_uf_eq]
        refine s71_51 rfl ?_
        refine s71_52 (by first | assumption | rfl) (by first | assumption | (exact hpo _) | rfl | decide) ?_
        refine s71_55 (by first | assumption | rfl) (by first | assumption | (exact hpo _) | rfl | decide) ?_
        refine s71_58 rfl ?_
        refine s71_59 rfl ?_
        refine s71_60 (by first | assumption | rfl) (by first | assumption | (exact hpo _) | rfl | decide) ?_
        refine s71_63 (by first | assumption | rfl) (by first | assumption | (exact hpo _) | rfl | decide) ?_
        refine s71_66 rfl ?_
        refine s71_67 (by first | assumption | rfl) (by simp) ?_
        refine c9 x_row4 hi2 ⟨by omega, by omega⟩ ?_
        refine ⟨_, rfl, ?_⟩
        rw [hv]
        refine s71_70 rfl ?_
        refine s71_71 ?_
        refine s71_72 (by first | assumption | rfl) (by simp) ?_
        rw [zx_I]
        refine c10 x_row4 hi2 ⟨by omega, by omega⟩ ⟨by omega, by omega⟩ ?_
        refine ⟨_, rfl, ?_⟩
        refine s71_75 rfl ?_
        refine s71_76 (by first | assumption | rfl) (by first | assumption | (exact hpo _) | rfl | decide) ?_
        refine s71_79 (by first | assumption | rfl) (by first | assumption | (exact hpo _) | rfl | decide) ?_
        refine s71_82 rfl ?_
        refine s71_83 (by first | assumption | rfl) (by simp) ?_
        refine c9 x_row4 hi2 ⟨by rw [x_uf_ne (by omega)]; omega, by rw [x_uf_ne (by omega)]; omega⟩ ?_
        refine ⟨_, rfl, ?_⟩
        rw [hw]
        refine s71_86 (st := []) ?_
        exact hR (by omega) (by omega) _ hZ2 (hF1.tr (zF.u (by omega)))
      · refine s71_33 (by first | assumption | rfl) (by first | assumption | omega) (by simp) ?_
        exact hU (by omega) (by omega)
  · refine s71_14 (by first | assumption | rfl) (by first | assumption | omega) (by simp) ?_
    exact hT (by omega)
theorem c72 {x : Int} (hZ : zC g y bs) (hx : ib x) (hn : 116 ≤ n ∧ n < 640) (hT : ¬ (0 ≤ x ∧ x ≤ 127) → Q (.inr 0) (x_vm g) (n + 1)) (hU : (0 ≤ x ∧ x ≤ 127) → 120 ≤ bs.length → Q (.inr 1) (x_vm g) (n + 1))
    (hR : (0 ≤ x ∧ x ≤ 127) → bs.length < 120 → ∀ g', zC g' (yclr y) (bs ++ [x]) → zF g g' → Q (.inl (some (.int (I (bs.length + 1))))) (x_vm g') n) : x_V S 72 0 [some (.ref 2), some (.int (I x))] [] (x_vm g) n Q := by
  have hs := x_shx hn.1
  have hn2 : n < x_NM := hn.2
  obtain ⟨x1, x2⟩ := hx
  have e41 := hZ.2.1.1
  have hl := hZ.2.1.2.1
  refine s72_0 rfl ?_
  refine s72_1 ⟨by omega, by omega⟩ (fun h1 => ?_) (fun h1 => ?_)
  · refine s72_10 (by first | assumption | rfl) (by first | assumption | omega) (by simp) ?_
    exact hT (by omega)
  · refine s72_4 rfl ?_
    refine s72_5 ?_
    refine s72_7 ⟨by omega, by omega⟩ ⟨by omega, by omega⟩ (fun h7 => ?_) (fun h7 => ?_)
    · refine s72_18 rfl ?_
      refine s72_19 (by first | assumption | rfl) (by first | assumption | (exact hpo _) | rfl | decide) ?_
      refine s72_22 (by first | assumption | rfl) (by first | assumption | (exact hpo _) | rfl | decide) ?_
      refine s72_25 (by first | assumption | rfl) (by simp) ?_
      refine c7 x_row4 ⟨by omega, by omega⟩ ?_
      refine ⟨_, rfl, ?_⟩
      rw [e41]
      generalize ez : (if 120 ≤ (bs.length : Int) then (1 : Int) else 0) = z
      have hz : (z = 0 ∧ ¬ 120 ≤ (bs.length : Int)) ∨ (z = 1 ∧ 120 ≤ (bs.length : Int)) := by
        rw [← ez]
        split
        · exact Or.inr ⟨rfl, by assumption⟩
        · exact Or.inl ⟨rfl, by assumption⟩
      refine s72_28 ⟨by omega, by omega⟩ (fun h28 => ?_) (fun h28 => ?_)
      · refine s72_39 rfl ?_
        refine s72_40 (by first | assumption | rfl) (by first | assumption | (exact hpo _) | rfl | decide) ?_
        refine s72_43 (by first | assumption | rfl) (by first | assumption | (exact hpo _) | rfl | decide) ?_
        refine s72_46 (by first | assumption | rfl) (by simp) ?_
        refine c38 ?_
        refine ⟨_, rfl, ?_⟩
        have hZ1 := hZ.clr
        have hF1 : zF g (x_uf g 9 2 0) := zF.u (by omega)
        generalize x_uf g 9 2 0 = g1 at hZ1 hF1 ⊢
        have e411 := hZ1.2.1.1
        have hZ2 := hZ1.app (z := x) (by omega) ⟨by omega, by omega⟩
        have hw : x_uf (x_uf g1 5 bs.length x) 4 1 (bs.length + 1) 4 1 = bs.length + 1 := x_uf_eq _ _ _ _
        refine s72_49 rfl ?_
        refine s72_50 (by first | assumption | rfl) (by first | assumption | (exact hpo _) | rfl | decide) ?_
        refine s72_53 (by first | assumption | rfl) (by first | assumption | (exact hpo _) | rfl | decide) ?_
        refine s72_56 rfl ?_
        refine s72_57 (by first | assumption | rfl) (by simp) ?_
        refine c11 x_row4 ⟨by omega, by omega⟩ ?_
        refine ⟨_, rfl, ?_⟩
        rw [e411, Int.toNat_natCast]
        refine s72_60 rfl ?_
        refine s72_61 (by first | assumption | rfl) (by first | assumption | (exact hpo _) | rfl | decide) ?_
        refine s72_64 (by first | assumption | rfl) (by first | assumption | (exact hpo _) | rfl | decide) ?_
        refine s72_67 (by first | assumption | rfl) (by first | assumption | (exact hpo _) | rfl | decide) (by first | assumption | decide | omega) ?_
        rw [hw]
        refine s72_70 (st := []) ?_
        exact hR (by omega) (by omega) _ hZ2 (hF1.tr ((zF.u (by omega)).tr (zF.u (by omega))))
      · refine s72_31 (by first | assumption | rfl) (by first | assumption | omega) (by simp) ?_
        exact hU (by omega) (by omega)
    · refine s72_10 (by first | assumption | rfl) (by first | assumption | omega) (by simp) ?_
      exact hT (by omega)
theorem c74 (hZ : zC g y bs) (hB : yB B (yclr y)) (hB2 : B + 10 ≤ 100000000) (h : ∀ g', zC g' (ytick (yclr y)) bs → zF g g' → Q (.inl (some (.int (I ((ytick (yclr y)).1 7))))) (x_vm g') n) : x_V S 74 0 [some (.ref 2)] [] (x_vm g) n Q := by
  refine s74_0 rfl ?_
  refine s74_1 (by first | assumption | rfl) (by first | assumption | (exact hpo _) | rfl | decide) ?_
  refine s74_4 (by first | assumption | rfl) (by first | assumption | (exact hpo _) | rfl | decide) ?_
  refine s74_7 (by first | assumption | rfl) (by simp) ?_
  refine c38 ?_
  refine ⟨_, rfl, ?_⟩
  have hZ1 := hZ.clr
  have hF1 : zF g (x_uf g 9 2 0) := zF.u (by omega)
  generalize x_uf g 9 2 0 = g1 at hZ1 hF1 ⊢
  refine s74_10 rfl ?_
  refine s74_11 (by first | assumption | rfl) (by first | assumption | (exact hpo _) | rfl | decide) ?_
  refine s74_14 (by first | assumption | rfl) (by simp) ?_
  refine c56 hZ1.1 hB hB2 (fun g2 hC2 hF2 => ?_)
  refine ⟨_, rfl, ?_⟩
  refine s74_17 rfl ?_
  refine s74_18 (by first | assumption | rfl) (by first | assumption | (exact hpo _) | rfl | decide) ?_
  refine s74_21 (by first | assumption | rfl) (by first | assumption | (exact hpo _) | rfl | decide) (by first | assumption | decide | omega) ?_
  rw [hC2.1 7 (by omega) (by omega)]
  refine s74_24 (st := []) ?_
  exact h _ (hZ1.ses hC2 hF2) (hF1.tr hF2.z)
theorem c75 (hZ : zC g y bs) (h6 : y.1 6 = 0 ∨ y.1 6 = 1) (h : ∀ g', zC g' (yleave (yclr y)) bs → zF g g' → Q (.inl (some (.int (I (y.1 6))))) (x_vm g') n) : x_V S 75 0 [some (.ref 2), none] [] (x_vm g) n Q := by
  refine s75_0 rfl ?_
  refine s75_1 (by first | assumption | rfl) (by first | assumption | (exact hpo _) | rfl | decide) ?_
  refine s75_4 (by first | assumption | rfl) (by first | assumption | (exact hpo _) | rfl | decide) ?_
  refine s75_7 (by first | assumption | rfl) (by simp) ?_
  refine c38 ?_
  refine ⟨_, rfl, ?_⟩
  have hZ1 := hZ.clr
  have hF1 : zF g (x_uf g 9 2 0) := zF.u (by omega)
  generalize x_uf g 9 2 0 = g1 at hZ1 hF1 ⊢
  have e6 : g1 8 6 = y.1 6 := hZ1.1.1 6 (by omega) (by omega)
  refine s75_10 rfl ?_
  refine s75_11 (by first | assumption | rfl) (by first | assumption | (exact hpo _) | rfl | decide) ?_
  refine s75_14 (by first | assumption | rfl) (by first | assumption | (exact hpo _) | rfl | decide) (by first | assumption | decide | omega) ?_
  rw [e6]
  refine s75_17 ?_
  refine s75_18 rfl ?_
  refine s75_19 (by first | assumption | rfl) (by first | assumption | (exact hpo _) | rfl | decide) ?_
  refine s75_22 (by first | assumption | rfl) (by simp) ?_
  refine c57 hZ1.1 (fun g2 hC2 hF2 => ?_)
  refine ⟨_, rfl, ?_⟩
  refine s75_25 rfl ?_
  refine s75_26 (st := []) (by omega) ?_
  exact h _ (hZ1.ses hC2 hF2) (hF1.tr hF2.z)
theorem yrep_2 {i s f l : Int} : (yrep y i s f l).2.2.2 = y.2.2.2 := by
  unfold yrep
  split <;> rfl
def yfil (r : yR) (q : Int) : yR := (r.1, r.2.1, r.2.2.1, r.2.2.2.1 + q, r.2.2.2.2)
def yfill (y : yS) (v q : Int) : yS := yrep (ybook y (y.2.2.2.1.set (yopen y.2.2.2.1 v) (yfil (y.2.2.2.1.getD (yopen y.2.2.2.1 v) yE) q)) y.2.2.2.2) v (48 + yst (yfil (y.2.2.2.1.getD (yopen y.2.2.2.1 v) yE) q)) (yfil (y.2.2.2.1.getD (yopen y.2.2.2.1 v) yE) q).2.2.2.1 (ylf (yfil (y.2.2.2.1.getD (yopen y.2.2.2.1 v) yE) q))
theorem yC.fil {k : Nat} {r0 r1 r2 r3 r4 : Int} {gm : Nat → Nat → Int} (h : yC g y) (hk : k < y.2.2.2.1.length) (e0 : gm (58 + k) 0 = r0) (e1 : gm (58 + k) 1 = r1) (e2 : gm (58 + k) 2 = r2) (e3 : gm (58 + k) 3 = r3) (e4 : gm (58 + k) 4 = r4) (e : ∀ b i, b ≠ 58 + k → gm b i = g b i) : yC gm (ybook y (y.2.2.2.1.set k (r0, r1, r2, r3, r4)) y.2.2.2.2) := by
  have h40 := h.2.2.2.1.2.1
  exact ⟨fun j q1 q2 => by rw [e _ _ (by omega)]; exact h.1 j q1 q2, h.2.1.eq (fun a i _ _ _ _ => e _ _ (by omega)), h.2.2.1.eq (fun a i _ => e _ _ (by omega)), h.2.2.2.1.put hk e0 e1 e2 e3 e4 e, h.2.2.2.2.eq (e _ _ (by omega)) (fun i => e _ _ (by omega))⟩
theorem c76 {w q : Int} (hZ : zC g y bs) (hB : yB B (yclr y)) (hO : yO y) (hl : y.2.2.1.length < 512) (hw : ib w) (hq : ib q) (hn : 116 ≤ n ∧ n < 640) (hT : yopen y.2.2.2.1 w = y.2.2.2.1.length → Q (.inr 3) (x_vm g) (n + 1))
    (hU : yopen y.2.2.2.1 w < y.2.2.2.1.length → ¬ (1 ≤ q ∧ q ≤ (y.2.2.2.1.getD (yopen y.2.2.2.1 w) yE).2.2.1 - (y.2.2.2.1.getD (yopen y.2.2.2.1 w) yE).2.2.2.1) → Q (.inr 0) (x_vm g) (n + 1))
    (hR : yopen y.2.2.2.1 w < y.2.2.2.1.length → (1 ≤ q ∧ q ≤ (y.2.2.2.1.getD (yopen y.2.2.2.1 w) yE).2.2.1 - (y.2.2.2.1.getD (yopen y.2.2.2.1 w) yE).2.2.2.1) → ∀ g', zC g' (yfill (yclr y) w q) bs → zF g g' → Q (.inl (some (.int (I ((y.2.2.2.1.getD (yopen y.2.2.2.1 w) yE).2.2.2.1 + q))))) (x_vm g') n) : x_V S 76 0 [some (.ref 2), some (.int (I w)), some (.int (I q)), none] [] (x_vm g) n Q := by
  have hs := x_shx hn.1
  have hn2 : n < x_NM := hn.2
  obtain ⟨q1, q2⟩ := hq
  have h40 := hZ.1.2.2.2.1.2.1
  refine s76_0 rfl ?_
  refine s76_1 rfl rfl ?_
  refine s76_4 rfl rfl ?_
  refine s76_7 rfl ?_
  refine s76_8 rfl (by simp) ?_
  refine c48y hZ.1 hO hw (fun hk hop => ?_) (fun hk => ?_)
  · refine ⟨_, rfl, ?_⟩
    have hU := hU hk
    have hR := hR hk
    unfold yfill at hR
    have hlk : (yclr y).2.2.2.1 = y.2.2.2.1 := rfl
    rw [hlk] at hR
    generalize ek : yopen y.2.2.2.1 w = k at hk hop hU hR
    have ho := x_ordi (i := k) (by omega)
    have ho1 := ho.1
    have hpo := ho.2.1
    have ho2 := ho.2.2
    have qa := hZ.1.2.2.2.1.at hk
    have hb := hO.1 k hk
    have hop2 := of_decide_eq_true hop
    generalize er : y.2.2.2.1.getD k yE = r at qa hb hop2 hU hR
    obtain ⟨r0, r1, r2, r3, r4⟩ := r
    obtain ⟨a0, a1, a2, a3, a4⟩ := qa
    simp only at a0 a1 a2 a3 a4 hb hop2 hU hR
    unfold yfil at hR
    simp only at hR
    refine s76_11 ?_
    refine s76_12 rfl ?_
    refine s76_13 ?_
    refine s76_24 rfl ?_
    refine s76_25 ?_
    refine s76_26 ⟨by omega, by omega⟩ ⟨by omega, by omega⟩ (fun h26 => ?_) (fun h26 => ?_)
    · refine s76_37 (by first | assumption | rfl) (by first | assumption | omega) (by simp) ?_
      exact hU (by omega)
    · refine s76_29 rfl ?_
      refine s76_30 rfl ?_
      refine s76_31 (by first | assumption | rfl) (by simp) ?_
      refine c19 ho ⟨by omega, by omega⟩ ?_
      refine ⟨_, rfl, ?_⟩
      rw [if_pos (show g (58 + k) 4 = 0 by omega), a2, a3]
      refine s76_34 ⟨by omega, by omega⟩ ⟨by omega, by omega⟩ (fun h34 => ?_) (fun h34 => ?_)
      · refine s76_45 rfl ?_
        refine s76_46 (by first | assumption | rfl) (by first | assumption | (exact hpo _) | rfl | decide) ?_
        refine s76_49 (by first | assumption | rfl) (by first | assumption | (exact hpo _) | rfl | decide) ?_
        refine s76_52 (by first | assumption | rfl) (by simp) ?_
        refine c38 ?_
        refine ⟨_, rfl, ?_⟩
        have hZ1 := hZ.clr
        have hF1 : zF g (x_uf g 9 2 0) := zF.u (by omega)
        generalize x_uf g 9 2 0 = g1 at hZ1 hF1 ⊢
        have qb := hZ1.1.2.2.2.1.at (i := k) hk
        rw [show (yclr y).2.2.2.1.getD k yE = (r0, r1, r2, r3, r4) from er] at qb
        obtain ⟨f0, f1, f2, f3, f4⟩ := qb
        have hC2 : yC (x_uf g1 (58 + k) 3 (r3 + q)) (ybook (yclr y) (y.2.2.2.1.set k (r0, r1, r2, r3 + q, r4)) y.2.2.2.2) := hZ1.1.fil (k := k) (gm := x_uf g1 (58 + k) 3 (r3 + q)) hk (by rw [x_uf_ne (by omega)]; exact f0) (by rw [x_uf_ne (by omega)]; exact f1) (by rw [x_uf_ne (by omega)]; exact f2) (x_uf_eq _ _ _ _) (by rw [x_uf_ne (by omega)]; exact f4) (fun b i hb => x_uf_ne (by omega))
        have hF2 : yF g1 (x_uf g1 (58 + k) 3 (r3 + q)) := fun b i hb => x_uf_ne (by omega)
        refine s76_55 rfl ?_
        refine s76_56 rfl ?_
        refine s76_57 (by first | assumption | rfl) (by first | assumption | (exact hpo _) | rfl | decide) (by first | assumption | decide | omega) ?_
        rw [show g1 (58 + k) 3 = r3 from f3]
        refine s76_60 rfl ?_
        refine s76_61 ?_
        refine s76_62 (by first | assumption | rfl) (by first | assumption | (exact hpo _) | rfl | decide) (by first | assumption | decide | omega) ?_
        refine s76_65 rfl ?_
        refine s76_66 (by first | assumption | rfl) (by first | assumption | (exact hpo _) | rfl | decide) ?_
        refine s76_69 rfl ?_
        refine s76_70 rfl ?_
        refine s76_71 rfl (by first | assumption | rfl) (by simp) ?_
        refine c58 (k := k) (r := (r0, r1, r2, r3 + q, r4)) hC2 (B := B) hB hl (by show k < (y.2.2.2.1.set _ _).length; rw [List.length_set]; exact hk) (by show (y.2.2.2.1.set k _).getD k yE = _; rw [ygd_set hk, if_pos rfl]) (show (0 ≤ r2 ∧ r2 ≤ 999999) ∧ (0 ≤ r3 + q ∧ r3 + q ≤ 999999) ∧ (r4 = 0 ∨ r4 = 1) from ⟨by omega, by omega, by omega⟩) (fun g3 hC3 hF3 => ?_)
        refine ⟨_, rfl, ?_⟩
        have e3 : g3 (58 + k) 3 = r3 + q := by
          have z := hC3.2.2.2.1
          rw [yrep_2] at z
          have z1 : yC4 g3 (y.2.2.2.1.set k (r0, r1, r2, r3 + q, r4)) := z
          have z2 := (z1.at (i := k) (by rw [List.length_set]; exact hk)).2.2.2.1
          rw [ygd_set hk, if_pos rfl] at z2
          exact z2
        refine s76_74 rfl ?_
        refine s76_75 (by first | assumption | rfl) (by first | assumption | (exact hpo _) | rfl | decide) (by first | assumption | decide | omega) ?_
        rw [e3]
        refine s76_78 (st := []) ?_
        exact hR ⟨by omega, by omega⟩ _ (hZ1.ses hC3 (hF2.tr hF3)) (hF1.tr (hF2.tr hF3).z)
      · refine s76_37 (by first | assumption | rfl) (by first | assumption | omega) (by simp) ?_
        exact hU (by omega)
  · refine ⟨_, rfl, ?_⟩
    refine s76_11N ?_
    refine s76_12N rfl ?_
    refine s76_13N ?_
    refine s76_16 (by first | assumption | rfl) (by first | assumption | omega) (by simp) ?_
    exact hT hk
end CM
