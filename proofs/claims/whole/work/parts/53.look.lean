/-! 53.look: the reference's calls that only look. -/
section ML
variable {S : Nat × (Nat → Int32)} {μ : xM} {g : Nat → Nat → Int} {n : Nat} {Q : xQ} {y : yS} {B : Int} {bs : List Int}
theorem c124 (hZ : sC g y bs) (h : ∀ g', sC g' y bs → sF g g' → Q (.inl (some (.int (I y.2.1.length)))) (x_vm g') n) : x_V S 124 0 [some (.ref 100)] [] (x_vm g) n Q := by
  have hth := fun c : Int => hZ.thr (c := c)
  have hZ0 := hZ.th0
  have hF0 : sF g (x_uf g 100 0 0) := sF.u
  have hF1 : ∀ c : Int, sF g (x_uf (x_uf g 100 0 0) 100 0 c) := fun c => sF.u.tr sF.u
  have v1 : ∀ c : Int, x_uf (x_uf g 100 0 0) 100 0 c 100 0 = c := fun c => x_uf_eq _ _ _ _
  have v0 : x_uf g 100 0 0 100 0 = 0 := x_uf_eq _ _ _ _
  refine s124_0 rfl ?_
  refine s124_1 ?_
  refine s124_2 rfl rfl (by decide) ?_
  generalize x_uf g 100 0 0 = g1 at hth hZ0 hF0 hF1 v1 v0 ⊢
  refine s124_5 rfl ?_
  refine s124_6 (by first | assumption | rfl) (by first | assumption | (exact hpo _) | rfl | decide) (by first | assumption | decide | omega) ?_
  rw [hZ0.1.2.1.1]
  refine s124_9 (st := []) ?_
  exact h _ hZ0 hF0
theorem c125 {k : Int} (hZ : sC g y bs) (hk : ib k) (hlen : y.2.1.length ≤ 100000000)
    (hT : ¬ (0 ≤ k ∧ k < y.2.1.length ∧ k < 20) → ∀ g', sC g' y bs → sF g g' → g' 100 0 = 1 → Q (.inl (some (.int (I 0)))) (x_vm g') n)
    (hR : (0 ≤ k ∧ k < y.2.1.length ∧ k < 20) → ∀ g', sC g' y bs → sF g g' → g' 100 0 = 0 → Q (.inl (some (.int (I (yfr (y.2.1.getD k.toNat yD)).length)))) (x_vm g') n) : x_V S 125 0 [some (.ref 100), some (.int (I k))] [] (x_vm g) n Q := by
  obtain ⟨k1, k2⟩ := hk
  have hth := fun c : Int => hZ.thr (c := c)
  have hZ0 := hZ.th0
  have hF0 : sF g (x_uf g 100 0 0) := sF.u
  have hF1 : ∀ c : Int, sF g (x_uf (x_uf g 100 0 0) 100 0 c) := fun c => sF.u.tr sF.u
  have v1 : ∀ c : Int, x_uf (x_uf g 100 0 0) 100 0 c 100 0 = c := fun c => x_uf_eq _ _ _ _
  have v0 : x_uf g 100 0 0 100 0 = 0 := x_uf_eq _ _ _ _
  refine s125_0 rfl ?_
  refine s125_1 ?_
  refine s125_2 rfl rfl (by decide) ?_
  generalize x_uf g 100 0 0 = g1 at hth hZ0 hF0 hF1 v1 v0 ⊢
  have k15 := hZ0.1.2.1.1
  refine s125_5 rfl ?_
  refine s125_6 ?_
  refine s125_7 rfl ?_
  refine s125_8 (by first | assumption | rfl) (by first | assumption | (exact hpo _) | rfl | decide) (by first | assumption | decide | omega) ?_
  refine s125_11 ?_
  refine s125_12 ?_
  refine s125_13 (by simp) ?_
  rw [k15]
  refine c86 ⟨by omega, by omega⟩ ⟨by omega, by omega⟩ ⟨by omega, by omega⟩ ?_
  refine ⟨_, rfl, ?_⟩
  generalize ezk : (if 0 ≤ k ∧ k ≤ ((y.2.1.length : Int) - 1) then (1 : Int) else 0) = zzk
  have hzk : (zzk = 0 ∧ ¬ (0 ≤ k ∧ k ≤ ((y.2.1.length : Int) - 1))) ∨ (zzk = 1 ∧ 0 ≤ k ∧ k ≤ ((y.2.1.length : Int) - 1)) := by
    rw [← ezk]
    split
    · exact Or.inr ⟨rfl, by assumption⟩
    · exact Or.inl ⟨rfl, by assumption⟩
  refine s125_16 ⟨by omega, by omega⟩ (fun h16 => ?_) (fun h16 => ?_)
  · refine s125_34 rfl ?_
    refine s125_35 ?_
    refine s125_36 (by first | assumption | rfl) (by simp) ?_
    refine c85 ?_
    refine ⟨_, rfl, ?_⟩
    refine s125_39 (st := []) ?_
    first
      | exact hT (by omega) _ (hth 1) (hF1 1) (v1 1)
      | exact hR ⟨by omega, by omega, by omega⟩ _ hZ0 hF0 v0
  · refine s125_19 rfl ?_
    refine s125_20 ?_
    refine s125_22 ⟨by omega, by omega⟩ ⟨by omega, by omega⟩ (fun h22 => ?_) (fun h22 => ?_)
    · refine s125_34 rfl ?_
      refine s125_35 ?_
      refine s125_36 (by first | assumption | rfl) (by simp) ?_
      refine c85 ?_
      refine ⟨_, rfl, ?_⟩
      refine s125_39 (st := []) ?_
      first
        | exact hT (by omega) _ (hth 1) (hF1 1) (v1 1)
        | exact hR ⟨by omega, by omega, by omega⟩ _ hZ0 hF0 v0
    · refine s125_25 rfl ?_
      refine s125_26 (by first | assumption | rfl) (by first | assumption | (exact hpo _) | rfl | decide) ?_
      refine s125_29 rfl ?_
      refine v_iald d125_30 (by first | assumption | rfl) (by omega) (by omega) (by omega) (by first | assumption | (exact hpo _) | rfl | decide) (by first | assumption | decide | omega) ?_
      rw [(hZ0.1.2.1.2 k.toNat (by omega) (by omega)).1]
      refine s125_31 ?_
      refine s125_39 (st := []) ?_
      first
        | exact hT (by omega) _ (hth 1) (hF1 1) (v1 1)
        | exact hR ⟨by omega, by omega, by omega⟩ _ hZ0 hF0 v0
theorem c126 {k i : Int} (hZ : sC g y bs) (hk : ib k) (hi : ib i) (hlen : y.2.1.length ≤ 100000000)
    (hT : ¬ ((0 ≤ k ∧ k < y.2.1.length ∧ k < 20) ∧ 0 ≤ i ∧ i < (yfr (y.2.1.getD k.toNat yD)).length) → ∀ g', sC g' y bs → sF g g' → g' 100 0 = 1 → Q (.inl (some (.int (I 0)))) (x_vm g') n)
    (hR : ((0 ≤ k ∧ k < y.2.1.length ∧ k < 20) ∧ 0 ≤ i ∧ i < (yfr (y.2.1.getD k.toNat yD)).length) → ∀ g', sC g' y bs → sF g g' → g' 100 0 = 0 → Q (.inl (some (.int (I ((yfr (y.2.1.getD k.toNat yD)).getD i.toNat 0))))) (x_vm g') n) : x_V S 126 0 [some (.ref 100), some (.int (I k)), some (.int (I i))] [] (x_vm g) n Q := by
  obtain ⟨k1, k2⟩ := hk
  obtain ⟨i1, i2⟩ := hi
  have hth := fun c : Int => hZ.thr (c := c)
  have hZ0 := hZ.th0
  have hF0 : sF g (x_uf g 100 0 0) := sF.u
  have hF1 : ∀ c : Int, sF g (x_uf (x_uf g 100 0 0) 100 0 c) := fun c => sF.u.tr sF.u
  have v1 : ∀ c : Int, x_uf (x_uf g 100 0 0) 100 0 c 100 0 = c := fun c => x_uf_eq _ _ _ _
  have v0 : x_uf g 100 0 0 100 0 = 0 := x_uf_eq _ _ _ _
  refine s126_0 rfl ?_
  refine s126_1 ?_
  refine s126_2 rfl rfl (by decide) ?_
  generalize x_uf g 100 0 0 = g1 at hth hZ0 hF0 hF1 v1 v0 ⊢
  have k15 := hZ0.1.2.1.1
  have hfl := yfr_len (y.2.1.getD k.toNat yD)
  have hfr := hZ0.1.2.1.2 k.toNat
  generalize yfr (y.2.1.getD k.toNat yD) = F at hT hR hfl hfr
  refine s126_5 rfl ?_
  refine s126_6 ?_
  refine s126_7 rfl ?_
  refine s126_8 (by first | assumption | rfl) (by first | assumption | (exact hpo _) | rfl | decide) (by first | assumption | decide | omega) ?_
  refine s126_11 ?_
  refine s126_12 ?_
  refine s126_13 (by simp) ?_
  rw [k15]
  refine c86 ⟨by omega, by omega⟩ ⟨by omega, by omega⟩ ⟨by omega, by omega⟩ ?_
  refine ⟨_, rfl, ?_⟩
  generalize ezk : (if 0 ≤ k ∧ k ≤ ((y.2.1.length : Int) - 1) then (1 : Int) else 0) = zzk
  have hzk : (zzk = 0 ∧ ¬ (0 ≤ k ∧ k ≤ ((y.2.1.length : Int) - 1))) ∨ (zzk = 1 ∧ 0 ≤ k ∧ k ≤ ((y.2.1.length : Int) - 1)) := by
    rw [← ezk]
    split
    · exact Or.inr ⟨rfl, by assumption⟩
    · exact Or.inl ⟨rfl, by assumption⟩
  refine s126_16 ⟨by omega, by omega⟩ (fun h16 => ?_) (fun h16 => ?_)
  · refine s126_55 rfl ?_
    refine s126_56 ?_
    refine s126_57 (by first | assumption | rfl) (by simp) ?_
    refine c85 ?_
    refine ⟨_, rfl, ?_⟩
    refine s126_60 (st := []) ?_
    first
      | exact hT (by omega) _ (hth 1) (hF1 1) (v1 1)
      | exact hR ⟨⟨by omega, by omega, by omega⟩, by omega, by omega⟩ _ hZ0 hF0 v0
  · refine s126_19 rfl ?_
    refine s126_20 ?_
    refine s126_22 ⟨by omega, by omega⟩ ⟨by omega, by omega⟩ (fun h22 => ?_) (fun h22 => ?_)
    · refine s126_55 rfl ?_
      refine s126_56 ?_
      refine s126_57 (by first | assumption | rfl) (by simp) ?_
      refine c85 ?_
      refine ⟨_, rfl, ?_⟩
      refine s126_60 (st := []) ?_
      first
        | exact hT (by omega) _ (hth 1) (hF1 1) (v1 1)
        | exact hR ⟨⟨by omega, by omega, by omega⟩, by omega, by omega⟩ _ hZ0 hF0 v0
    · refine s126_25 rfl ?_
      refine s126_26 ?_
      refine s126_27 rfl ?_
      refine s126_28 (by first | assumption | rfl) (by first | assumption | (exact hpo _) | rfl | decide) ?_
      refine s126_31 rfl ?_
      refine v_iald d126_32 (by first | assumption | rfl) (by omega) (by omega) (by omega) (by first | assumption | (exact hpo _) | rfl | decide) (by first | assumption | decide | omega) ?_
      have hfr := hfr (by omega) (by omega)
      rw [hfr.1]
      refine s126_33 ?_
      refine s126_34 ?_
      refine s126_35 (by simp) ?_
      refine c86 ⟨by omega, by omega⟩ ⟨by omega, by omega⟩ ⟨by omega, by omega⟩ ?_
      refine ⟨_, rfl, ?_⟩
      generalize ezi : (if 0 ≤ i ∧ i ≤ ((F.length : Int) - 1) then (1 : Int) else 0) = zzi
      have hzi : (zzi = 0 ∧ ¬ (0 ≤ i ∧ i ≤ ((F.length : Int) - 1))) ∨ (zzi = 1 ∧ 0 ≤ i ∧ i ≤ ((F.length : Int) - 1)) := by
        rw [← ezi]
        split
        · exact Or.inr ⟨rfl, by assumption⟩
        · exact Or.inl ⟨rfl, by assumption⟩
      refine s126_38 ⟨by omega, by omega⟩ (fun h38 => ?_) (fun h38 => ?_)
      · refine s126_55 rfl ?_
        refine s126_56 ?_
        refine s126_57 (by first | assumption | rfl) (by simp) ?_
        refine c85 ?_
        refine ⟨_, rfl, ?_⟩
        refine s126_60 (st := []) ?_
        first
          | exact hT (by omega) _ (hth 1) (hF1 1) (v1 1)
          | exact hR ⟨⟨by omega, by omega, by omega⟩, by omega, by omega⟩ _ hZ0 hF0 v0
      · refine s126_41 rfl ?_
        refine s126_42 (by first | assumption | rfl) (by first | assumption | (exact hpo _) | rfl | decide) ?_
        refine s126_45 ?_
        refine s126_47 rfl ?_
        refine s126_48 ?_
        refine s126_49 rfl ?_
        refine s126_50 ?_
        refine v_iald d126_51 (by first | assumption | rfl) (by omega) (by omega) (by omega) (by first | assumption | (exact hpo _) | rfl | decide) (by first | assumption | decide | omega) ?_
        rw [show ((120 : Int) * k + i).toNat = 120 * k.toNat + i.toNat by omega, hfr.2 i.toNat (by omega)]
        refine s126_52 ?_
        refine s126_60 (st := []) ?_
        first
          | exact hT (by omega) _ (hth 1) (hF1 1) (v1 1)
          | exact hR ⟨⟨by omega, by omega, by omega⟩, by omega, by omega⟩ _ hZ0 hF0 v0
theorem c127 {w : Int} (hZ : sC g y bs) (hw : ib w) (h6 : y.1 6 = 0 ∨ y.1 6 = 1)
    (hT : ¬ (0 ≤ w ∧ w ≤ 6) → ∀ g', sC g' y bs → sF g g' → g' 100 0 = 1 → Q (.inl (some (.int (I 0)))) (x_vm g') n)
    (hR : (0 ≤ w ∧ w ≤ 6) → ∀ g', sC g' y bs → sF g g' → g' 100 0 = 0 → Q (.inl (some (.int (I (yses y w))))) (x_vm g') n) : x_V S 127 0 [some (.ref 100), some (.int (I w))] [] (x_vm g) n Q := by
  obtain ⟨w1, w2⟩ := hw
  have hth := fun c : Int => hZ.thr (c := c)
  have hZ0 := hZ.th0
  have hF0 : sF g (x_uf g 100 0 0) := sF.u
  have hF1 : ∀ c : Int, sF g (x_uf (x_uf g 100 0 0) 100 0 c) := fun c => sF.u.tr sF.u
  have v1 : ∀ c : Int, x_uf (x_uf g 100 0 0) 100 0 c 100 0 = c := fun c => x_uf_eq _ _ _ _
  have v0 : x_uf g 100 0 0 100 0 = 0 := x_uf_eq _ _ _ _
  refine s127_0 rfl ?_
  refine s127_1 ?_
  refine s127_2 rfl rfl (by decide) ?_
  generalize x_uf g 100 0 0 = g1 at hth hZ0 hF0 hF1 v1 v0 ⊢
  obtain ⟨k20, k21, k26, k19, k22, k36, k23, k24, k25⟩ := hZ0.1.1.at
  have k29 := hZ0.1.2.2.2.1.1
  have e : ∀ x : Int, 0 ≤ w → w ≤ 6 → yses y w = x → Q (.inl (some (.int (I x)))) (x_vm g1) n := fun x q1 q2 q3 => by rw [← q3]; exact hR ⟨q1, q2⟩ _ hZ0 hF0 v0
  unfold yses at e
  refine s127_5 rfl ?_
  refine s127_6 ?_
  refine s127_7 ?_
  refine s127_9 (by simp) ?_
  refine c86 ⟨by omega, by omega⟩ ⟨by omega, by omega⟩ ⟨by omega, by omega⟩ ?_
  refine ⟨_, rfl, ?_⟩
  generalize ezw : (if 0 ≤ w ∧ w ≤ 6 then (1 : Int) else 0) = zzw
  have hzw : (zzw = 0 ∧ ¬ (0 ≤ w ∧ w ≤ 6)) ∨ (zzw = 1 ∧ 0 ≤ w ∧ w ≤ 6) := by
    rw [← ezw]
    split
    · exact Or.inr ⟨rfl, by assumption⟩
    · exact Or.inl ⟨rfl, by assumption⟩
  refine s127_12 ⟨by omega, by omega⟩ (fun h12 => ?_) (fun h12 => ?_)
  · refine s127_21 rfl ?_
    refine s127_22 ?_
    refine s127_23 ⟨by omega, by omega⟩ ⟨by omega, by omega⟩ (fun h23 => ?_) (fun h23 => ?_)
    · refine s127_74 rfl ?_
      refine s127_75 ?_
      refine s127_76 ⟨by omega, by omega⟩ ⟨by omega, by omega⟩ (fun h76 => ?_) (fun h76 => ?_)
      · refine s127_86 rfl ?_
        refine s127_87 ?_
        refine s127_88 ⟨by omega, by omega⟩ ⟨by omega, by omega⟩ (fun h88 => ?_) (fun h88 => ?_)
        · refine s127_98 rfl ?_
          refine s127_99 (by first | assumption | rfl) (by first | assumption | (exact hpo _) | rfl | decide) (by first | assumption | decide | omega) ?_
          rw [k36]
          refine s127_102 (st := []) ?_
          refine e _ (by omega) (by omega) ?_
          rw [if_neg (show ¬ w = 0 by omega), if_neg (show ¬ w = 1 by omega), if_neg (show ¬ w = 2 by omega), if_neg (show ¬ w = 3 by omega)]
          first
            | rw [if_pos (show w = 4 by omega)]
            | rw [if_neg (show ¬ w = 4 by omega), if_pos (show w = 5 by omega)]
            | rw [if_neg (show ¬ w = 4 by omega), if_neg (show ¬ w = 5 by omega)]
        · refine s127_91 rfl ?_
          refine s127_92 (by first | assumption | rfl) (by first | assumption | (exact hpo _) | rfl | decide) (by first | assumption | decide | omega) ?_
          rw [k29]
          refine s127_95 ?_
          refine s127_102 (st := []) ?_
          refine e _ (by omega) (by omega) ?_
          rw [if_neg (show ¬ w = 0 by omega), if_neg (show ¬ w = 1 by omega), if_neg (show ¬ w = 2 by omega), if_neg (show ¬ w = 3 by omega)]
          first
            | rw [if_pos (show w = 4 by omega)]
            | rw [if_neg (show ¬ w = 4 by omega), if_pos (show w = 5 by omega)]
            | rw [if_neg (show ¬ w = 4 by omega), if_neg (show ¬ w = 5 by omega)]
      · refine s127_79 rfl ?_
        refine s127_80 (by first | assumption | rfl) (by first | assumption | (exact hpo _) | rfl | decide) (by first | assumption | decide | omega) ?_
        rw [k22]
        refine s127_83 ?_
        refine s127_102 (st := []) ?_
        refine e _ (by omega) (by omega) ?_
        rw [if_neg (show ¬ w = 0 by omega), if_neg (show ¬ w = 1 by omega), if_neg (show ¬ w = 2 by omega), if_neg (show ¬ w = 3 by omega)]
        first
          | rw [if_pos (show w = 4 by omega)]
          | rw [if_neg (show ¬ w = 4 by omega), if_pos (show w = 5 by omega)]
          | rw [if_neg (show ¬ w = 4 by omega), if_neg (show ¬ w = 5 by omega)]
    · refine s127_26 rfl ?_
      refine s127_27 ⟨by omega, by omega⟩ (fun h27 => ?_) (fun h27 => ?_)
      · refine s127_37 rfl ?_
        refine s127_38 ?_
        refine s127_39 ⟨by omega, by omega⟩ ⟨by omega, by omega⟩ (fun h39 => ?_) (fun h39 => ?_)
        · refine s127_49 rfl ?_
          refine s127_50 ?_
          refine s127_51 ⟨by omega, by omega⟩ ⟨by omega, by omega⟩ (fun h51 => ?_) (fun h51 => ?_)
          · refine s127_61 rfl ?_
            refine s127_62 (by first | assumption | rfl) (by first | assumption | (exact hpo _) | rfl | decide) (by first | assumption | decide | omega) ?_
            rw [k19]
            refine s127_65 ⟨by omega, by omega⟩ (fun h65 => ?_) (fun h65 => ?_)
            · refine s127_72 ?_
              refine s127_73 (st := []) ?_
              refine e _ (by omega) (by omega) ?_
              first
                | rw [if_pos (show w = 0 by omega)]
                | rw [if_neg (show ¬ w = 0 by omega), if_pos (show w = 1 by omega)]
                | rw [if_neg (show ¬ w = 0 by omega), if_neg (show ¬ w = 1 by omega), if_pos (show w = 2 by omega)]
                | rw [if_neg (show ¬ w = 0 by omega), if_neg (show ¬ w = 1 by omega), if_neg (show ¬ w = 2 by omega), if_pos (show w = 3 by omega), if_pos (show y.1 6 = 0 by omega)]
                | rw [if_neg (show ¬ w = 0 by omega), if_neg (show ¬ w = 1 by omega), if_neg (show ¬ w = 2 by omega), if_pos (show w = 3 by omega), if_neg (show ¬ y.1 6 = 0 by omega)]
            · refine s127_68 ?_
              refine s127_69 ?_
              refine s127_73 (st := []) ?_
              refine e _ (by omega) (by omega) ?_
              first
                | rw [if_pos (show w = 0 by omega)]
                | rw [if_neg (show ¬ w = 0 by omega), if_pos (show w = 1 by omega)]
                | rw [if_neg (show ¬ w = 0 by omega), if_neg (show ¬ w = 1 by omega), if_pos (show w = 2 by omega)]
                | rw [if_neg (show ¬ w = 0 by omega), if_neg (show ¬ w = 1 by omega), if_neg (show ¬ w = 2 by omega), if_pos (show w = 3 by omega), if_pos (show y.1 6 = 0 by omega)]
                | rw [if_neg (show ¬ w = 0 by omega), if_neg (show ¬ w = 1 by omega), if_neg (show ¬ w = 2 by omega), if_pos (show w = 3 by omega), if_neg (show ¬ y.1 6 = 0 by omega)]
          · refine s127_54 rfl ?_
            refine s127_55 (by first | assumption | rfl) (by first | assumption | (exact hpo _) | rfl | decide) (by first | assumption | decide | omega) ?_
            rw [k26]
            refine s127_58 ?_
            refine s127_73 (st := []) ?_
            refine e _ (by omega) (by omega) ?_
            first
              | rw [if_pos (show w = 0 by omega)]
              | rw [if_neg (show ¬ w = 0 by omega), if_pos (show w = 1 by omega)]
              | rw [if_neg (show ¬ w = 0 by omega), if_neg (show ¬ w = 1 by omega), if_pos (show w = 2 by omega)]
              | rw [if_neg (show ¬ w = 0 by omega), if_neg (show ¬ w = 1 by omega), if_neg (show ¬ w = 2 by omega), if_pos (show w = 3 by omega), if_pos (show y.1 6 = 0 by omega)]
              | rw [if_neg (show ¬ w = 0 by omega), if_neg (show ¬ w = 1 by omega), if_neg (show ¬ w = 2 by omega), if_pos (show w = 3 by omega), if_neg (show ¬ y.1 6 = 0 by omega)]
        · refine s127_42 rfl ?_
          refine s127_43 (by first | assumption | rfl) (by first | assumption | (exact hpo _) | rfl | decide) (by first | assumption | decide | omega) ?_
          rw [k21]
          refine s127_46 ?_
          refine s127_73 (st := []) ?_
          refine e _ (by omega) (by omega) ?_
          first
            | rw [if_pos (show w = 0 by omega)]
            | rw [if_neg (show ¬ w = 0 by omega), if_pos (show w = 1 by omega)]
            | rw [if_neg (show ¬ w = 0 by omega), if_neg (show ¬ w = 1 by omega), if_pos (show w = 2 by omega)]
            | rw [if_neg (show ¬ w = 0 by omega), if_neg (show ¬ w = 1 by omega), if_neg (show ¬ w = 2 by omega), if_pos (show w = 3 by omega), if_pos (show y.1 6 = 0 by omega)]
            | rw [if_neg (show ¬ w = 0 by omega), if_neg (show ¬ w = 1 by omega), if_neg (show ¬ w = 2 by omega), if_pos (show w = 3 by omega), if_neg (show ¬ y.1 6 = 0 by omega)]
      · refine s127_30 rfl ?_
        refine s127_31 (by first | assumption | rfl) (by first | assumption | (exact hpo _) | rfl | decide) (by first | assumption | decide | omega) ?_
        rw [k20]
        refine s127_34 ?_
        refine s127_73 (st := []) ?_
        refine e _ (by omega) (by omega) ?_
        first
          | rw [if_pos (show w = 0 by omega)]
          | rw [if_neg (show ¬ w = 0 by omega), if_pos (show w = 1 by omega)]
          | rw [if_neg (show ¬ w = 0 by omega), if_neg (show ¬ w = 1 by omega), if_pos (show w = 2 by omega)]
          | rw [if_neg (show ¬ w = 0 by omega), if_neg (show ¬ w = 1 by omega), if_neg (show ¬ w = 2 by omega), if_pos (show w = 3 by omega), if_pos (show y.1 6 = 0 by omega)]
          | rw [if_neg (show ¬ w = 0 by omega), if_neg (show ¬ w = 1 by omega), if_neg (show ¬ w = 2 by omega), if_pos (show w = 3 by omega), if_neg (show ¬ y.1 6 = 0 by omega)]
  · refine s127_15 rfl ?_
    refine s127_16 ?_
    refine s127_17 (by first | assumption | rfl) (by simp) ?_
    refine c85 ?_
    refine ⟨_, rfl, ?_⟩
    refine s127_20 (st := []) ?_
    exact hT (by omega) _ (hth 1) (hF1 1) (v1 1)
end ML
