/-! 47.leave: the reference leaves and asks. -/
section MS
variable {S : Nat × (Nat → Int32)} {μ : xM} {g : Nat → Nat → Int} {n : Nat} {Q : xQ} {y : yS} {B : Int}
/-- what the reference needs to send -/
def rP (y : yS) : Prop := y.2.1.length ≤ 100000 ∧ (1 ≤ y.1 4 ∧ y.1 4 < 1600) ∧ (∀ r ∈ y.2.2.1, 0 < r.1 ∧ r.1 < y.1 4) ∧ (y.1 6 = 0 ∨ y.1 6 = 1)
theorem rsend_in {t p q : Int} (ht : t ≠ 56) (h6 : y.1 6 ≠ 0) : rsend y t p q 0 0 = ysend y t p q := by
  unfold rsend rkeep
  rw [if_neg h6, if_neg ht]
  rfl
theorem rsend_rep {i s f l : Int} : rsend y 56 i s f l = yrep y i s f l := by
  unfold rsend rkeep yrep
  rw [if_pos rfl]
theorem c98p {t p q r s : Int} (hC : rC g y) (hP : rP y) (ht : ib t) (ht2 : t ≠ 52) (ho : y.1 6 ≠ 0 → rok (t, y.1 4, 0, p, q, r, s)) (h : ∀ g', rC g' (rsend y t p q r s) → rF g g' → Q (.inl none) (x_vm g') n) : x_V S 98 0 [some (.ref 100), some (.int (I t)), some (.int (I p)), some (.int (I q)), some (.int (I r)), some (.int (I s))] [] (x_vm g) n Q := by
  obtain ⟨h1, h2, h3, h4⟩ := hP
  exact c98 (N := (y.1 4).toNat) hC h1 (by omega) (by omega) (fun r hr => (h3 r hr).2) h4 ht ht2 ho h
/-- a plain message that can be sent -/
theorem rok_s {t nn p q : Int} (ht : xty t) (h56 : t ≠ 56) (hn : 0 ≤ nn ∧ nn ≤ 999999) (hp : -1 ≤ p ∧ p ≤ 999999) (hp2 : t ≠ 48 → 0 ≤ p) (hq : 0 ≤ q ∧ q ≤ 999999) : rok (t, nn, 0, p, q, 0, 0) := by
  have htb : 48 ≤ t ∧ t ≤ 71 := by omega
  exact ⟨⟨(show 0 ≤ t ∧ t ≤ 127 by omega), hn, Or.inl rfl, hp, (show -1 ≤ q ∧ q ≤ 999999 by omega), (show (-1 : Int) ≤ 0 ∧ (0 : Int) ≤ 999999 by omega), (show (-1 : Int) ≤ 0 ∧ (0 : Int) ≤ 999999 by omega), fun e => absurd e h56⟩, ht, hp2, hq.1, Int.le_refl 0, Int.le_refl 0⟩
theorem c99 (hC : rC g y) (hP : rP y) (h : ∀ g', rC g' (if y.1 6 = 0 then yleave y else ylogout y) → rF g g' → Q (.inl none) (x_vm g') n) : x_V S 99 0 [some (.ref 100)] [] (x_vm g) n Q := by
  have k19 : g 100 19 = y.1 6 := hC.1.at.2.2.2.1
  have h6 := hP.2.2.2
  have h4 := hP.2.1
  refine s99_0 rfl ?_
  refine s99_1 (by first | assumption | rfl) (by first | assumption | (exact hpo _) | rfl | decide) (by first | assumption | decide | omega) ?_
  rw [k19]
  refine s99_4 ⟨by omega, by omega⟩ (fun h4 => ?_) (fun h4 => ?_)
  · refine s99_17 rfl ?_
    refine s99_18 ?_
    refine s99_19 (by first | assumption | rfl) (by omega) (by first | assumption | (exact hpo _) | rfl | decide) (by first | assumption | decide | omega) ?_
    refine s99_22 rfl ?_
    refine s99_23 ?_
    refine s99_24 (by first | assumption | rfl) (by first | assumption | (exact hpo _) | rfl | decide) (by first | assumption | decide | omega) ?_
    refine s99_27 (st := []) ?_
    first
      | (rw [if_pos (show y.1 6 = 0 by omega)] at h
         exact h _ (rC.set (j := 5) (by omega) (by omega) (by omega) (rC.set (j := 6) (by omega) (by omega) (by omega) hC)) ((rF.u (by omega)).tr (rF.u (by omega))))
      | (rw [if_neg (show ¬ y.1 6 = 0 by omega)] at h
         exact h _ (rC.set (j := 5) (by omega) (by omega) (by omega) (rC.set (j := 6) (by omega) (by omega) (by omega) c1)) ((hF1.tr (rF.u (by omega))).tr (rF.u (by omega))))
  · refine s99_7 rfl ?_
    refine s99_8 ?_
    refine s99_10 ?_
    refine s99_11 ?_
    refine s99_12 ?_
    refine s99_13 ?_
    refine s99_14 (by first | assumption | rfl) (by simp) ?_
    refine c98p hC hP ⟨by omega, by omega⟩ (by omega) (fun _ => rok_s (by decide) (by decide) ⟨by omega, by omega⟩ ⟨by omega, by omega⟩ (fun _ => Int.le_refl 0) ⟨by omega, by omega⟩) (fun g1 c1 hF1 => ?_)
    refine ⟨_, rfl, ?_⟩
    rw [rsend_in (by decide) (by omega)] at c1
    refine s99_17 rfl ?_
    refine s99_18 ?_
    refine s99_19 (by first | assumption | rfl) (by omega) (by first | assumption | (exact hpo _) | rfl | decide) (by first | assumption | decide | omega) ?_
    refine s99_22 rfl ?_
    refine s99_23 ?_
    refine s99_24 (by first | assumption | rfl) (by first | assumption | (exact hpo _) | rfl | decide) (by first | assumption | decide | omega) ?_
    refine s99_27 (st := []) ?_
    first
      | (rw [if_pos (show y.1 6 = 0 by omega)] at h
         exact h _ (rC.set (j := 5) (by omega) (by omega) (by omega) (rC.set (j := 6) (by omega) (by omega) (by omega) hC)) ((rF.u (by omega)).tr (rF.u (by omega))))
      | (rw [if_neg (show ¬ y.1 6 = 0 by omega)] at h
         exact h _ (rC.set (j := 5) (by omega) (by omega) (by omega) (rC.set (j := 6) (by omega) (by omega) (by omega) c1)) ((hF1.tr (rF.u (by omega))).tr (rF.u (by omega))))
theorem c100 (hC : rC g y) (hP : rP y) (h6 : y.1 6 ≠ 0) (h3 : 0 ≤ y.1 3 ∧ y.1 3 ≤ 999999) (h : ∀ g', rC g' (yask y) → rF g g' → Q (.inl none) (x_vm g') n) : x_V S 100 0 [some (.ref 100)] [] (x_vm g) n Q := by
  have k20 : g 100 20 = y.1 3 := hC.1.at.1
  have h4 := hP.2.1
  refine s100_0 rfl ?_
  refine s100_1 ?_
  refine s100_3 rfl ?_
  refine s100_4 (by first | assumption | rfl) (by first | assumption | (exact hpo _) | rfl | decide) (by first | assumption | decide | omega) ?_
  rw [k20]
  refine s100_7 ?_
  refine s100_8 ?_
  refine s100_9 ?_
  refine s100_10 (by first | assumption | rfl) (by simp) ?_
  refine c98p hC hP ⟨by omega, by omega⟩ (by omega) (fun _ => rok_s (by decide) (by decide) ⟨by omega, by omega⟩ ⟨by omega, by omega⟩ (fun _ => h3.1) ⟨by omega, by omega⟩) (fun g1 c1 hF1 => ?_)
  refine ⟨_, rfl, ?_⟩
  rw [rsend_in (by decide) h6] at c1
  have k22 : g1 100 22 = y.1 7 := c1.1.at.2.2.2.2.1
  refine s100_13 rfl ?_
  refine s100_14 rfl ?_
  refine s100_15 (by first | assumption | rfl) (by first | assumption | (exact hpo _) | rfl | decide) (by first | assumption | decide | omega) ?_
  rw [k22]
  refine s100_18 (by first | assumption | rfl) (by first | assumption | (exact hpo _) | rfl | decide) (by first | assumption | decide | omega) ?_
  refine s100_21 (st := []) ?_
  exact h _ (rC.set (j := 11) (by omega) (by omega) (by omega) c1) (hF1.tr (rF.u (by omega)))
end MS
