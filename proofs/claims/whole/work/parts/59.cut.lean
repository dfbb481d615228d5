/-! 59.cut: settle; the reference cuts the frame into fields. -/
section MP
variable {S : Nat × (Nat → Int32)} {μ : xM} {g : Nat → Nat → Int} {n : Nat} {Q : xQ} {y : yS} {B : Int} {bs : List Int} {f : Int → Int}
def ysettle (y : yS) : yS := yset y 5 (if y.1 5 < y.1 3 ∨ y.1 6 = 0 then 0 else y.1 5)
theorem c118 (hC : rC g y) (hB : yB B y) (h : ∀ g', rC g' (ysettle y) → rF g g' → Q (.inl none) (x_vm g') n) : x_V S 118 0 [some (.ref 100)] [] (x_vm g) n Q := by
  obtain ⟨k20, k21, k26, k19, k22, k36, k23, k24, k25⟩ := hC.1.at
  have b3 := hB.1 3 (by omega) (by omega)
  have b5 := hB.1 5 (by omega) (by omega)
  have b6 := hB.1 6 (by omega) (by omega)
  have bB := hB.2.2
  unfold ysettle at h
  refine s118_0 rfl ?_
  refine s118_1 rfl ?_
  refine s118_2 (by first | assumption | rfl) (by first | assumption | (exact hpo _) | rfl | decide) (by first | assumption | decide | omega) ?_
  refine s118_5 rfl ?_
  refine s118_6 (by first | assumption | rfl) (by first | assumption | (exact hpo _) | rfl | decide) (by first | assumption | decide | omega) ?_
  refine s118_9 ⟨by omega, by omega⟩ ⟨by omega, by omega⟩ (fun h9 => ?_) (fun h9 => ?_)
  · refine s118_19 ?_
    refine s118_20 ?_
    refine s118_27 (by first | assumption | rfl) (by first | assumption | (exact hpo _) | rfl | decide) (by first | assumption | decide | omega) ?_
    refine s118_30 (st := []) ?_
    first
      | (rw [if_pos (show y.1 5 < y.1 3 ∨ y.1 6 = 0 by omega)] at h; exact h _ (rC.set (j := 5) (by omega) (by omega) (by omega) hC) (rF.u (by omega)))
      | (rw [if_neg (show ¬ (y.1 5 < y.1 3 ∨ y.1 6 = 0) by omega)] at h; exact h _ (rC.set (j := 5) (by omega) (by omega) (by omega) hC) (rF.u (by omega)))
  · refine s118_12 rfl ?_
    refine s118_13 (by first | assumption | rfl) (by first | assumption | (exact hpo _) | rfl | decide) (by first | assumption | decide | omega) ?_
    refine s118_16 ⟨by omega, by omega⟩ (fun h16 => ?_) (fun h16 => ?_)
    · refine s118_23 rfl ?_
      refine s118_24 (by first | assumption | rfl) (by first | assumption | (exact hpo _) | rfl | decide) (by first | assumption | decide | omega) ?_
      rw [k26]
      refine s118_27 (by first | assumption | rfl) (by first | assumption | (exact hpo _) | rfl | decide) (by first | assumption | decide | omega) ?_
      refine s118_30 (st := []) ?_
      first
        | (rw [if_pos (show y.1 5 < y.1 3 ∨ y.1 6 = 0 by omega)] at h; exact h _ (rC.set (j := 5) (by omega) (by omega) (by omega) hC) (rF.u (by omega)))
        | (rw [if_neg (show ¬ (y.1 5 < y.1 3 ∨ y.1 6 = 0) by omega)] at h; exact h _ (rC.set (j := 5) (by omega) (by omega) (by omega) hC) (rF.u (by omega)))
    · refine s118_19 ?_
      refine s118_20 ?_
      refine s118_27 (by first | assumption | rfl) (by first | assumption | (exact hpo _) | rfl | decide) (by first | assumption | decide | omega) ?_
      refine s118_30 (st := []) ?_
      first
        | (rw [if_pos (show y.1 5 < y.1 3 ∨ y.1 6 = 0 by omega)] at h; exact h _ (rC.set (j := 5) (by omega) (by omega) (by omega) hC) (rF.u (by omega)))
        | (rw [if_neg (show ¬ (y.1 5 < y.1 3 ∨ y.1 6 = 0) by omega)] at h; exact h _ (rC.set (j := 5) (by omega) (by omega) (by omega) hC) (rF.u (by omega)))
theorem c106 {v : Int} (hv : ib v) (h : Q (.inl (some (.int (I (if 48 ≤ v ∧ v ≤ 57 then 1 else 0))))) μ n) : x_V S 106 0 [some (.int (I v))] [] μ n Q := by
  obtain ⟨v1, v2⟩ := hv
  refine s106_0 rfl ?_
  refine s106_1 ?_
  refine s106_3 ⟨by omega, by omega⟩ ⟨by omega, by omega⟩ (fun h3 => ?_) (fun h3 => ?_)
  · refine s106_16 ?_
    refine s106_17 (st := []) (by omega) ?_
    first | (rw [if_pos (by omega)] at h; exact h) | (rw [if_neg (by omega)] at h; exact h)
  · refine s106_6 rfl ?_
    refine s106_7 ?_
    refine s106_9 ⟨by omega, by omega⟩ ⟨by omega, by omega⟩ (fun h9 => ?_) (fun h9 => ?_)
    · refine s106_16 ?_
      refine s106_17 (st := []) (by omega) ?_
      first | (rw [if_pos (by omega)] at h; exact h) | (rw [if_neg (by omega)] at h; exact h)
    · refine s106_12 ?_
      refine s106_13 ?_
      refine s106_17 (st := []) (by omega) ?_
      first | (rw [if_pos (by omega)] at h; exact h) | (rw [if_neg (by omega)] at h; exact h)
end MP
