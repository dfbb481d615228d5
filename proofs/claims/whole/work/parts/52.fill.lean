/-! 52.fill: the reference tells, fills, restarts. -/
section MO
variable {S : Nat × (Nat → Int32)} {μ : xM} {g : Nat → Nat → Int} {n : Nat} {Q : xQ} {y : yS} {B : Int} {bs : List Int}
theorem rI.f {g' : Nat → Nat → Int} (h : rI g bs) (hF : rF g g') : rI g' bs := h.eq (fun i q => hF _ _ (by omega)) (fun i => hF _ _ (by omega))
theorem c115 {k : Nat} (hC : rC g y) (hP : rP y) (hO : yO y) (hk : k < y.2.2.2.1.length) (h : ∀ g', rC g' (yrep y (y.2.2.2.1.getD k yE).1 (48 + yst (y.2.2.2.1.getD k yE)) (y.2.2.2.1.getD k yE).2.2.2.1 (ylf (y.2.2.2.1.getD k yE))) → rF g g' → Q (.inl none) (x_vm g') n) : x_V S 115 0 [some (.ref 100), some (.int (I k))] [] (x_vm g) n Q := by
  have h40 := hC.2.2.2.1.2.1
  obtain ⟨a0, a1, a2, a3, a4⟩ := hC.2.2.2.1.at hk
  have hb := hO.1 k hk
  have hst := yst_b (y.2.2.2.1.getD k yE)
  have h4 := hP.2.1
  have hlf : ylf (y.2.2.2.1.getD k yE) = (if (y.2.2.2.1.getD k yE).2.2.2.2 = 0 then (y.2.2.2.1.getD k yE).2.2.1 - (y.2.2.2.1.getD k yE).2.2.2.1 else 0) := rfl
  have hc113 := fun (Q : xQ) => c113 (S := S) (n := n) (Q := Q) hC hO hk
  rw [← rsend_rep] at h
  generalize y.2.2.2.1.getD k yE = r at a0 a1 a2 a3 a4 hb hst h hlf hc113
  have lb : 0 ≤ ylf r ∧ ylf r ≤ 999999 := by rw [hlf]; split <;> omega
  have hro : rok (56, y.1 4, 0, r.1, 48 + yst r, r.2.2.2.1, ylf r) := ⟨⟨(show (0 : Int) ≤ 56 ∧ (56 : Int) ≤ 127 by omega), (show 0 ≤ y.1 4 ∧ y.1 4 ≤ 999999 by omega), Or.inl rfl, (show -1 ≤ r.1 ∧ r.1 ≤ 999999 by omega), (show -1 ≤ 48 + yst r ∧ 48 + yst r ≤ 999999 by omega), (show -1 ≤ r.2.2.2.1 ∧ r.2.2.2.1 ≤ 999999 by omega), (show -1 ≤ ylf r ∧ ylf r ≤ 999999 by omega), fun _ => (show 0 ≤ 48 + yst r ∧ 48 + yst r ≤ 127 by omega)⟩, (show xty 56 by decide), fun _ => (show 0 ≤ r.1 by omega), (show 0 ≤ 48 + yst r by omega), (show 0 ≤ r.2.2.2.1 by omega), lb.1⟩
  refine s115_0 rfl ?_
  refine s115_1 ?_
  refine s115_3 rfl ?_
  refine s115_4 (by first | assumption | rfl) (by first | assumption | (exact hpo _) | rfl | decide) ?_
  refine s115_7 rfl ?_
  refine v_iald d115_8 (by first | assumption | rfl) (by omega) (by omega) (by omega) (by first | assumption | (exact hpo _) | rfl | decide) (by first | assumption | decide | omega) ?_
  rw [Int.toNat_natCast, a0]
  refine s115_9 ?_
  refine s115_11 rfl ?_
  refine s115_12 rfl ?_
  refine s115_13 (by first | assumption | rfl) (by simp) ?_
  refine hc113 _ ?_
  refine ⟨_, rfl, ?_⟩
  refine s115_16 ?_
  refine s115_17 rfl ?_
  refine s115_18 (by first | assumption | rfl) (by first | assumption | (exact hpo _) | rfl | decide) ?_
  refine s115_21 rfl ?_
  refine v_iald d115_22 (by first | assumption | rfl) (by omega) (by omega) (by omega) (by first | assumption | (exact hpo _) | rfl | decide) (by first | assumption | decide | omega) ?_
  rw [Int.toNat_natCast, a3]
  refine s115_23 rfl ?_
  refine s115_24 (by first | assumption | rfl) (by first | assumption | (exact hpo _) | rfl | decide) ?_
  refine s115_27 rfl ?_
  refine v_zald d115_28 (by first | assumption | rfl) (by omega) (by omega) (by omega) (by first | assumption | (exact hpo _) | rfl | decide) (by first | assumption | decide | omega) ?_
  rw [Int.toNat_natCast, a4]
  refine s115_29 ⟨by omega, by omega⟩ (fun h29 => ?_) (fun h29 => ?_)
  · refine s115_36 rfl ?_
    refine s115_37 (by first | assumption | rfl) (by first | assumption | (exact hpo _) | rfl | decide) ?_
    refine s115_40 rfl ?_
    refine v_iald d115_41 (by first | assumption | rfl) (by omega) (by omega) (by omega) (by first | assumption | (exact hpo _) | rfl | decide) (by first | assumption | decide | omega) ?_
    rw [Int.toNat_natCast, a2]
    refine s115_42 rfl ?_
    refine s115_43 (by first | assumption | rfl) (by first | assumption | (exact hpo _) | rfl | decide) ?_
    refine s115_46 rfl ?_
    refine v_iald d115_47 (by first | assumption | rfl) (by omega) (by omega) (by omega) (by first | assumption | (exact hpo _) | rfl | decide) (by first | assumption | decide | omega) ?_
    rw [Int.toNat_natCast, a3]
    refine s115_48 ?_
    refine s115_49 (by first | assumption | rfl) (by simp) ?_
    first
      | (rw [if_pos (show r.2.2.2.2 = 0 by omega)] at hlf; rw [← hlf])
      | (rw [if_neg (show ¬ r.2.2.2.2 = 0 by omega)] at hlf; rw [← hlf])
    refine c98p hC hP ⟨by omega, by omega⟩ (by omega) (fun _ => hro) (fun g1 c1 hF1 => ?_)
    refine ⟨_, rfl, ?_⟩
    refine s115_52 (st := []) ?_
    exact h _ c1 hF1
  · refine s115_32 ?_
    refine s115_33 ?_
    refine s115_49 (by first | assumption | rfl) (by simp) ?_
    first
      | (rw [if_pos (show r.2.2.2.2 = 0 by omega)] at hlf; rw [← hlf])
      | (rw [if_neg (show ¬ r.2.2.2.2 = 0 by omega)] at hlf; rw [← hlf])
    refine c98p hC hP ⟨by omega, by omega⟩ (by omega) (fun _ => hro) (fun g1 c1 hF1 => ?_)
    refine ⟨_, rfl, ?_⟩
    refine s115_52 (st := []) ?_
    exact h _ c1 hF1
theorem c122 (hZ : sC g y bs) (h6 : y.1 6 = 0 ∨ y.1 6 = 1) (h : ∀ g', sC g' (yleave (yclr y)) bs → sF g g' → Q (.inl (some (.int (I (y.1 6))))) (x_vm g') n) : x_V S 122 0 [some (.ref 100), none] [] (x_vm g) n Q := by
  have hth := fun c : Int => hZ.thr (c := c)
  have hZ0 := hZ.th0
  have hF0 : sF g (x_uf g 100 0 0) := sF.u
  have hF1 : ∀ c : Int, sF g (x_uf (x_uf g 100 0 0) 100 0 c) := fun c => sF.u.tr sF.u
  have v1 : ∀ c : Int, x_uf (x_uf g 100 0 0) 100 0 c 100 0 = c := fun c => x_uf_eq _ _ _ _
  have v0 : x_uf g 100 0 0 100 0 = 0 := x_uf_eq _ _ _ _
  refine s122_0 rfl ?_
  refine s122_1 ?_
  refine s122_2 rfl rfl (by decide) ?_
  generalize x_uf g 100 0 0 = g1 at hth hZ0 hF0 hF1 v1 v0 ⊢
  have k19 : g1 100 19 = y.1 6 := hZ0.1.1.at.2.2.2.1
  refine s122_5 rfl ?_
  refine s122_6 (by first | assumption | rfl) (by first | assumption | (exact hpo _) | rfl | decide) (by first | assumption | decide | omega) ?_
  rw [k19]
  refine s122_9 ?_
  refine s122_10 rfl ?_
  refine s122_11 ?_
  refine s122_12 (by first | assumption | rfl) (by omega) (by first | assumption | (exact hpo _) | rfl | decide) (by first | assumption | decide | omega) ?_
  refine s122_15 rfl ?_
  refine s122_16 ?_
  refine s122_17 (by first | assumption | rfl) (by first | assumption | (exact hpo _) | rfl | decide) (by first | assumption | decide | omega) ?_
  refine s122_20 rfl ?_
  refine s122_21 ?_
  refine s122_22 (by first | assumption | rfl) (by first | assumption | (exact hpo _) | rfl | decide) (by first | assumption | decide | omega) ?_
  refine s122_25 rfl ?_
  refine s122_26 (st := []) (by omega) ?_
  refine h _ ⟨?_, hZ0.2.eq (fun i q => by rw [x_uf_ne (by omega), x_uf_ne (by omega), x_uf_ne (by omega)]) (fun i => by rw [x_uf_ne (by omega), x_uf_ne (by omega), x_uf_ne (by omega)])⟩ (hF0.tr ((sF.u.tr sF.u).tr sF.u))
  exact (rC.set (j := 5) (by omega) (by omega) (by omega) (rC.set (j := 6) (by omega) (by omega) (by omega) hZ0.1)).clr
end MO
