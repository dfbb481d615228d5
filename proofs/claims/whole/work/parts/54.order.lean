/-! 54.fill: the reference's order and fill. -/
section ML
variable {S : Nat × (Nat → Int32)} {μ : xM} {g : Nat → Nat → Int} {n : Nat} {Q : xQ} {y : yS} {B : Int} {bs : List Int}
theorem c128 {u w : Int} (hZ : sC g y bs) (hO : yO y) (hu : ib u) (hw : ib w)
    (hT : yfind y.2.2.2.1 u = y.2.2.2.1.length → ∀ g', sC g' y bs → sF g g' → g' 100 0 = 1 → Q (.inl (some (.int (I 0)))) (x_vm g') n)
    (hU : yfind y.2.2.2.1 u < y.2.2.2.1.length → ¬ (0 ≤ w ∧ w ≤ 3) → ∀ g', sC g' y bs → sF g g' → g' 100 0 = 2 → Q (.inl (some (.int (I 0)))) (x_vm g') n)
    (hR : yfind y.2.2.2.1 u < y.2.2.2.1.length → (0 ≤ w ∧ w ≤ 3) → ∀ g', sC g' y bs → sF g g' → g' 100 0 = 0 → Q (.inl (some (.int (I (yordv (y.2.2.2.1.getD (yfind y.2.2.2.1 u) yE) w))))) (x_vm g') n) : x_V S 128 0 [some (.ref 100), some (.int (I u)), some (.int (I w)), none, none] [] (x_vm g) n Q := by
  obtain ⟨u1, u2⟩ := hu
  obtain ⟨w1, w2⟩ := hw
  have hth := fun c : Int => hZ.thr (c := c)
  have hZ0 := hZ.th0
  have hF0 : sF g (x_uf g 100 0 0) := sF.u
  have hF1 : ∀ c : Int, sF g (x_uf (x_uf g 100 0 0) 100 0 c) := fun c => sF.u.tr sF.u
  have v1 : ∀ c : Int, x_uf (x_uf g 100 0 0) 100 0 c 100 0 = c := fun c => x_uf_eq _ _ _ _
  have v0 : x_uf g 100 0 0 100 0 = 0 := x_uf_eq _ _ _ _
  refine s128_0 rfl ?_
  refine s128_1 ?_
  refine s128_2 rfl rfl (by decide) ?_
  generalize x_uf g 100 0 0 = g1 at hth hZ0 hF0 hF1 v1 v0 ⊢
  have h40 := hZ0.1.2.2.2.1.2.1
  have hc := hZ0.1.2.2.2.1.1
  have tail : ∀ (f : Int) (i : Option Value), ((f = -1 ∧ yfind y.2.2.2.1 u = y.2.2.2.1.length) ∨ (f = (yfind y.2.2.2.1 u : Int) ∧ yfind y.2.2.2.1 u < y.2.2.2.1.length)) → x_V S 128 43 [some (.ref 100), some (.int (I u)), some (.int (I w)), some (.int (I f)), i] [] (x_vm g1) n Q := by
    intro f i hf
    rcases hf with ⟨q1, q2⟩ | ⟨q1, q2⟩
    · have hT := hT q2
      rw [q1]
      refine s128_43 rfl ?_
      refine s128_44 ⟨by omega, by omega⟩ (fun h44 => ?_) (fun h44 => ?_)
      · exfalso; omega
      · refine s128_47 rfl ?_
        refine s128_48 ?_
        refine s128_49 (by first | assumption | rfl) (by simp) ?_
        refine c85 ?_
        refine ⟨_, rfl, ?_⟩
        refine s128_52 (st := []) ?_
        exact hT _ (hth 1) (hF1 1) (v1 1)
    · have hU := hU q2
      have hR := hR q2
      rw [q1]
      generalize yfind y.2.2.2.1 u = k at q2 hU hR
      obtain ⟨a0, a1, a2, a3, a4⟩ := hZ0.1.2.2.2.1.at q2
      have e : ∀ x : Int, 0 ≤ w → w ≤ 3 → yordv (y.2.2.2.1.getD k yE) w = x → Q (.inl (some (.int (I x)))) (x_vm g1) n := fun x z1 z2 z3 => by rw [← z3]; exact hR ⟨z1, z2⟩ _ hZ0 hF0 v0
      unfold yordv at e
      refine s128_43 rfl ?_
      refine s128_44 ⟨by omega, by omega⟩ (fun h44 => ?_) (fun h44 => ?_)
      · refine s128_53 rfl ?_
        refine s128_54 ?_
        refine s128_55 ?_
        refine s128_56 (by simp) ?_
        refine c86 ⟨by omega, by omega⟩ ⟨by omega, by omega⟩ ⟨by omega, by omega⟩ ?_
        refine ⟨_, rfl, ?_⟩
        generalize ezw : (if 0 ≤ w ∧ w ≤ 3 then (1 : Int) else 0) = zzw
        have hzw : (zzw = 0 ∧ ¬ (0 ≤ w ∧ w ≤ 3)) ∨ (zzw = 1 ∧ 0 ≤ w ∧ w ≤ 3) := by
          rw [← ezw]
          split
          · exact Or.inr ⟨rfl, by assumption⟩
          · exact Or.inl ⟨rfl, by assumption⟩
        refine s128_59 ⟨by omega, by omega⟩ (fun h59 => ?_) (fun h59 => ?_)
        · refine s128_68 rfl ?_
          refine s128_69 ⟨by omega, by omega⟩ (fun h69 => ?_) (fun h69 => ?_)
          · refine s128_81 rfl ?_
            refine s128_82 ?_
            refine s128_83 ⟨by omega, by omega⟩ ⟨by omega, by omega⟩ (fun h83 => ?_) (fun h83 => ?_)
            · refine s128_95 rfl ?_
              refine s128_96 ?_
              refine s128_97 ⟨by omega, by omega⟩ ⟨by omega, by omega⟩ (fun h97 => ?_) (fun h97 => ?_)
              · refine s128_109 rfl ?_
                refine s128_110 rfl ?_
                refine s128_111 (by first | assumption | rfl) (by simp) ?_
                refine c113 hZ0.1 hO q2 ?_
                refine ⟨_, rfl, ?_⟩
                refine s128_114 (st := []) ?_
                refine e _ (by omega) (by omega) ?_
                first
                  | rw [if_pos (show w = 0 by omega)]
                  | rw [if_neg (show ¬ w = 0 by omega), if_pos (show w = 1 by omega)]
                  | rw [if_neg (show ¬ w = 0 by omega), if_neg (show ¬ w = 1 by omega), if_pos (show w = 2 by omega)]
                  | rw [if_neg (show ¬ w = 0 by omega), if_neg (show ¬ w = 1 by omega), if_neg (show ¬ w = 2 by omega)]
              · refine s128_100 rfl ?_
                refine s128_101 (by first | assumption | rfl) (by first | assumption | (exact hpo _) | rfl | decide) ?_
                refine s128_104 rfl ?_
                refine v_iald d128_105 (by first | assumption | rfl) (by omega) (by omega) (by omega) (by first | assumption | (exact hpo _) | rfl | decide) (by first | assumption | decide | omega) ?_
                rw [Int.toNat_natCast, a3]
                refine s128_106 ?_
                refine s128_114 (st := []) ?_
                refine e _ (by omega) (by omega) ?_
                first
                  | rw [if_pos (show w = 0 by omega)]
                  | rw [if_neg (show ¬ w = 0 by omega), if_pos (show w = 1 by omega)]
                  | rw [if_neg (show ¬ w = 0 by omega), if_neg (show ¬ w = 1 by omega), if_pos (show w = 2 by omega)]
                  | rw [if_neg (show ¬ w = 0 by omega), if_neg (show ¬ w = 1 by omega), if_neg (show ¬ w = 2 by omega)]
            · refine s128_86 rfl ?_
              refine s128_87 (by first | assumption | rfl) (by first | assumption | (exact hpo _) | rfl | decide) ?_
              refine s128_90 rfl ?_
              refine v_iald d128_91 (by first | assumption | rfl) (by omega) (by omega) (by omega) (by first | assumption | (exact hpo _) | rfl | decide) (by first | assumption | decide | omega) ?_
              rw [Int.toNat_natCast, a2]
              refine s128_92 ?_
              refine s128_114 (st := []) ?_
              refine e _ (by omega) (by omega) ?_
              first
                | rw [if_pos (show w = 0 by omega)]
                | rw [if_neg (show ¬ w = 0 by omega), if_pos (show w = 1 by omega)]
                | rw [if_neg (show ¬ w = 0 by omega), if_neg (show ¬ w = 1 by omega), if_pos (show w = 2 by omega)]
                | rw [if_neg (show ¬ w = 0 by omega), if_neg (show ¬ w = 1 by omega), if_neg (show ¬ w = 2 by omega)]
          · refine s128_72 rfl ?_
            refine s128_73 (by first | assumption | rfl) (by first | assumption | (exact hpo _) | rfl | decide) ?_
            refine s128_76 rfl ?_
            refine v_iald d128_77 (by first | assumption | rfl) (by omega) (by omega) (by omega) (by first | assumption | (exact hpo _) | rfl | decide) (by first | assumption | decide | omega) ?_
            rw [Int.toNat_natCast, a1]
            refine s128_78 ?_
            refine s128_114 (st := []) ?_
            refine e _ (by omega) (by omega) ?_
            first
              | rw [if_pos (show w = 0 by omega)]
              | rw [if_neg (show ¬ w = 0 by omega), if_pos (show w = 1 by omega)]
              | rw [if_neg (show ¬ w = 0 by omega), if_neg (show ¬ w = 1 by omega), if_pos (show w = 2 by omega)]
              | rw [if_neg (show ¬ w = 0 by omega), if_neg (show ¬ w = 1 by omega), if_neg (show ¬ w = 2 by omega)]
        · refine s128_62 rfl ?_
          refine s128_63 ?_
          refine s128_64 (by first | assumption | rfl) (by simp) ?_
          refine c85 ?_
          refine ⟨_, rfl, ?_⟩
          refine s128_67 (st := []) ?_
          exact hU (by omega) _ (hth 2) (hF1 2) (v1 2)
      · exfalso; omega
  have loop : ∀ (d i : Nat) (f : Int), i + d = y.2.2.2.1.length → ((f = -1 ∧ ∀ j, j < i → (y.2.2.2.1.getD j yE).1 ≠ u) ∨ (∃ j : Nat, f = j ∧ j < i ∧ (y.2.2.2.1.getD j yE).1 = u)) → x_V S 128 10 [some (.ref 100), some (.int (I u)), some (.int (I w)), some (.int (I f)), some (.int (I i))] [] (x_vm g1) n Q := by
    intro d
    induction d with
    | zero =>
      intro i f hi hf
      refine s128_10 rfl ?_
      refine s128_12 rfl ?_
      refine s128_13 (by first | assumption | rfl) (by first | assumption | (exact hpo _) | rfl | decide) (by first | assumption | decide | omega) ?_
      refine s128_16 ⟨by omega, by omega⟩ ⟨by omega, by omega⟩ (fun h16 => ?_) (fun h16 => ?_)
      · refine tail f _ ?_
        rcases hf with ⟨q1, q2⟩ | ⟨j, q1, q2, q3⟩
        · exact Or.inl ⟨q1, yfx_no (d := yE) (fun j hj => decide_eq_false (q2 j (by omega)))⟩
        · have e : yfind y.2.2.2.1 u = j := yfx_eq (d := yE) (by omega) (decide_eq_true q3) (fun i2 hi2 => decide_eq_false (fun z => by have := hO.2.1 i2 j (by omega) (by omega) (by omega); omega))
          exact Or.inr ⟨by rw [e]; exact q1, by omega⟩
      · exfalso; omega
    | succ d ih =>
      intro i f hi hf
      obtain ⟨a0, a1, a2, a3, a4⟩ := hZ0.1.2.2.2.1.at (i := i) (by omega)
      have hb := hO.1 i (by omega)
      refine s128_10 rfl ?_
      refine s128_12 rfl ?_
      refine s128_13 (by first | assumption | rfl) (by first | assumption | (exact hpo _) | rfl | decide) (by first | assumption | decide | omega) ?_
      refine s128_16 ⟨by omega, by omega⟩ ⟨by omega, by omega⟩ (fun h16 => ?_) (fun h16 => ?_)
      · exfalso; omega
      · refine s128_19 rfl ?_
        refine s128_20 (by first | assumption | rfl) (by first | assumption | (exact hpo _) | rfl | decide) ?_
        refine s128_23 rfl ?_
        refine v_iald d128_25 (by first | assumption | rfl) (by omega) (by omega) (by omega) (by first | assumption | (exact hpo _) | rfl | decide) (by first | assumption | decide | omega) ?_
        rw [Int.toNat_natCast, a0]
        refine s128_26 rfl ?_
        refine s128_27 ⟨by omega, by omega⟩ ⟨by omega, by omega⟩ (fun h27 => ?_) (fun h27 => ?_)
        · refine s128_35 rfl ?_
          refine s128_36 ?_
          refine s128_37 rfl ?_
          refine s128_40 ?_
          first
            | exact ih (i + 1) i (by omega) (Or.inr ⟨i, rfl, by omega, by omega⟩)
            | (refine ih (i + 1) f (by omega) ?_
               rcases hf with ⟨q1, q2⟩ | ⟨j, q1, q2, q3⟩
               · refine Or.inl ⟨q1, fun j hj => ?_⟩
                 by_cases c : j = i
                 · rw [c]; omega
                 · exact q2 j (by omega)
               · exact Or.inr ⟨j, q1, by omega, q3⟩)
        · refine s128_30 rfl ?_
          refine s128_32 ?_
          refine s128_36 ?_
          refine s128_37 rfl ?_
          refine s128_40 ?_
          first
            | exact ih (i + 1) i (by omega) (Or.inr ⟨i, rfl, by omega, by omega⟩)
            | (refine ih (i + 1) f (by omega) ?_
               rcases hf with ⟨q1, q2⟩ | ⟨j, q1, q2, q3⟩
               · refine Or.inl ⟨q1, fun j hj => ?_⟩
                 by_cases c : j = i
                 · rw [c]; omega
                 · exact q2 j (by omega)
               · exact Or.inr ⟨j, q1, by omega, q3⟩)
  refine s128_5 ?_
  refine s128_6 ?_
  refine s128_7 ?_
  refine s128_8 ?_
  exact loop _ 0 (-1) (Nat.zero_add _) (Or.inl ⟨rfl, fun j hj => absurd hj (Nat.not_lt_zero _)⟩)
end ML
