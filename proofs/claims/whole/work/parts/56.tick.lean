/-! 56.tick: the reference's tick. -/
section ML
variable {S : Nat × (Nat → Int32)} {μ : xM} {g : Nat → Nat → Int} {n : Nat} {Q : xQ} {y : yS} {B : Int} {bs : List Int}
theorem rP.send {t p q : Int} (h : rP y) (h1 : y.1 4 + 1 < 1600) (h2 : y.2.1.length + 1 ≤ 100000) : rP (ysend y t p q) := by
  obtain ⟨a1, a2, a3, a4⟩ := h
  have e4 : (ysend y t p q).1 4 = y.1 4 + 1 := yset_eq
  refine ⟨?_, ?_, fun r hr => ?_, a4⟩
  · show (y.2.1 ++ [_]).length ≤ 100000
    rw [ylen_app]; exact h2
  · rw [e4]; omega
  · rw [e4]
    have := a3 r hr
    omega
/-- the clock, as the reference sees it -/
theorem c121 (hZ : sC g y bs) (hP : rP (yclr y)) (hn : y.1 4 + 5 < 1600) (hB : yB B (yclr y)) (hB2 : B + 10 ≤ 100000000) (h7 : y.1 7 + 1 ≤ 999999) (h5 : 0 < y.1 5 → y.1 3 ≤ 999999) (h : ∀ g', sC g' (ytick (yclr y)) bs → sF g g' → Q (.inl (some (.int (I ((ytick (yclr y)).1 7))))) (x_vm g') n) : x_V S 121 0 [some (.ref 100)] [] (x_vm g) n Q := by
  have hth := fun c : Int => hZ.thr (c := c)
  have hZ0 := hZ.th0
  have hF0 : sF g (x_uf g 100 0 0) := sF.u
  have hF1 : ∀ c : Int, sF g (x_uf (x_uf g 100 0 0) 100 0 c) := fun c => sF.u.tr sF.u
  have v1 : ∀ c : Int, x_uf (x_uf g 100 0 0) 100 0 c 100 0 = c := fun c => x_uf_eq _ _ _ _
  have v0 : x_uf g 100 0 0 100 0 = 0 := x_uf_eq _ _ _ _
  refine s121_0 rfl ?_
  refine s121_1 ?_
  refine s121_2 rfl rfl (by decide) ?_
  generalize x_uf g 100 0 0 = g1 at hth hZ0 hF0 hF1 v1 v0 ⊢
  have b3 : 0 ≤ y.1 3 ∧ y.1 3 ≤ B := hB.1 3 (by omega) (by omega)
  have b5 : 0 ≤ y.1 5 ∧ y.1 5 ≤ B := hB.1 5 (by omega) (by omega)
  have b7 : 0 ≤ y.1 7 ∧ y.1 7 ≤ B := hB.1 7 (by omega) (by omega)
  have b9 : 0 ≤ y.1 9 ∧ y.1 9 ≤ B := hB.1 9 (by omega) (by omega)
  have b10 : 0 ≤ y.1 10 ∧ y.1 10 ≤ B := hB.1 10 (by omega) (by omega)
  have b11 : 0 ≤ y.1 11 ∧ y.1 11 ≤ B := hB.1 11 (by omega) (by omega)
  have bB := hB.2.2
  have h6 : y.1 6 = 0 ∨ y.1 6 = 1 := hP.2.2.2
  have k22 : x_uf g1 100 15 0 100 22 = y.1 7 := by rw [x_uf_ne (by omega)]; exact hZ0.1.1.at.2.2.2.2.1
  have hC1 : rC (x_uf (x_uf g1 100 15 0) 100 22 (y.1 7 + 1)) (yset (yclr y) 7 (y.1 7 + 1)) := rC.set (j := 7) (by omega) (by omega) (by omega) hZ0.1.clr
  have hF2 : rF g1 (x_uf (x_uf g1 100 15 0) 100 22 (y.1 7 + 1)) := (rF.u (by omega)).tr (rF.u (by omega))
  have fin : ∀ (y2 : yS) (g2 : Nat → Nat → Int), ytick (yclr y) = y2 → rC g2 y2 → rF g1 g2 → x_V S 121 131 [some (.ref 100)] [] (x_vm g2) n Q := by
    intro y2 g2 e c2 f2
    rw [e] at h
    have z : g2 100 22 = y2.1 7 := c2.1.at.2.2.2.2.1
    refine s121_131 rfl ?_
    refine s121_132 (by first | assumption | rfl) (by first | assumption | (exact hpo _) | rfl | decide) (by first | assumption | decide | omega) ?_
    rw [z]
    refine s121_135 (st := []) ?_
    exact h _ ⟨c2, hZ0.2.f f2⟩ (hF0.tr f2.s)
  have p3 : ∀ (y3 : yS) (g3 : Nat → Nat → Int), rC g3 y3 → rP y3 → y3.1 6 ≠ 0 → yB (B + 3) y3 → ytick (yclr y) = ytick3 y3 → rF g1 g3 → x_V S 121 107 [some (.ref 100)] [] (x_vm g3) n Q := by
    intro y3 g3 c3 P3 i3 B3 e3 f3
    have k7 : g3 100 22 = y3.1 7 := c3.1.at.2.2.2.2.1
    have k10 : g3 100 24 = y3.1 10 := c3.1.at.2.2.2.2.2.2.2.1
    have d7 := B3.1 7 (by omega) (by omega)
    have d10 := B3.1 10 (by omega) (by omega)
    have d4 := P3.2.1
    unfold ytick3 at e3
    refine s121_107 rfl ?_
    refine s121_108 (by first | assumption | rfl) (by first | assumption | (exact hpo _) | rfl | decide) (by first | assumption | decide | omega) ?_
    rw [k7]
    refine s121_111 rfl ?_
    refine s121_112 (by first | assumption | rfl) (by first | assumption | (exact hpo _) | rfl | decide) (by first | assumption | decide | omega) ?_
    rw [k10]
    refine s121_115 ?_
    refine s121_116 ?_
    refine s121_118 ⟨by omega, by omega⟩ ⟨by omega, by omega⟩ (fun h118 => ?_) (fun h118 => ?_)
    · first
        | (rw [if_neg (show ¬ 10 ≤ y3.1 7 - y3.1 10 by omega)] at e3; exact fin _ _ e3 c3 f3)
        | (rw [if_pos (show 10 ≤ y3.1 7 - y3.1 10 by omega)] at e3; exact fin _ _ e3 c4 (f3.tr hF4))
    · refine s121_121 rfl ?_
      refine s121_122 ?_
      refine s121_124 ?_
      refine s121_125 ?_
      refine s121_126 ?_
      refine s121_127 ?_
      refine s121_128 (by first | assumption | rfl) (by simp) ?_
      refine c98p c3 P3 ⟨by omega, by omega⟩ (by omega) (fun _ => rok_s (by decide) (by decide) ⟨by omega, by omega⟩ ⟨by omega, by omega⟩ (fun z => absurd rfl z) ⟨by omega, by omega⟩) (fun g4 c4 hF4 => ?_)
      refine ⟨_, rfl, ?_⟩
      rw [rsend_in (by decide) i3] at c4
      first
        | (rw [if_neg (show ¬ 10 ≤ y3.1 7 - y3.1 10 by omega)] at e3; exact fin _ _ e3 c3 f3)
        | (rw [if_pos (show 10 ≤ y3.1 7 - y3.1 10 by omega)] at e3; exact fin _ _ e3 c4 (f3.tr hF4))
  have p2 : ∀ (y2 : yS) (g2 : Nat → Nat → Int), rC g2 y2 → rP y2 → y2.1 4 + 2 < 1600 → y2.2.1.length ≤ 90 → y2.1 6 ≠ 0 → yB (B + 2) y2 → (0 < y2.1 5 → y2.1 3 ≤ 999999) → ytick (yclr y) = ytick3 (ytick2 y2) → rF g1 g2 → x_V S 121 82 [some (.ref 100)] [] (x_vm g2) n Q := by
    intro y2 g2 c2 P2 n2 l2 i2 B2 h52 e2 f2
    have k7 : g2 100 22 = y2.1 7 := c2.1.at.2.2.2.2.1
    have k5 : g2 100 26 = y2.1 5 := c2.1.at.2.2.1
    have k11 : g2 100 25 = y2.1 11 := c2.1.at.2.2.2.2.2.2.2.2
    have d7 := B2.1 7 (by omega) (by omega)
    have d5 := B2.1 5 (by omega) (by omega)
    have d11 := B2.1 11 (by omega) (by omega)
    have d3 := B2.1 3 (by omega) (by omega)
    have hq := B2.t2 (by omega)
    rw [show B + 2 + 1 = B + 3 by omega] at hq
    have Ps : rP (yask y2) := P2.send (by omega) (by omega)
    unfold ytick2 at e2 hq
    refine s121_82 rfl ?_
    refine s121_83 (by first | assumption | rfl) (by first | assumption | (exact hpo _) | rfl | decide) (by first | assumption | decide | omega) ?_
    rw [k5]
    refine s121_86 ⟨by omega, by omega⟩ (fun h86 => ?_) (fun h86 => ?_)
    · first
        | (rw [if_neg (show ¬ (0 < y2.1 5 ∧ 8 ≤ y2.1 7 - y2.1 11) by omega)] at e2 hq; exact p3 _ _ c2 P2 i2 hq e2 f2)
        | (rw [if_pos (show 0 < y2.1 5 ∧ 8 ≤ y2.1 7 - y2.1 11 by omega)] at e2 hq; exact p3 _ _ c4 Ps i2 hq e2 (f2.tr hF4))
    · refine s121_89 rfl ?_
      refine s121_90 (by first | assumption | rfl) (by first | assumption | (exact hpo _) | rfl | decide) (by first | assumption | decide | omega) ?_
      rw [k7]
      refine s121_93 rfl ?_
      refine s121_94 (by first | assumption | rfl) (by first | assumption | (exact hpo _) | rfl | decide) (by first | assumption | decide | omega) ?_
      rw [k11]
      refine s121_97 ?_
      refine s121_98 ?_
      refine s121_100 ⟨by omega, by omega⟩ ⟨by omega, by omega⟩ (fun h100 => ?_) (fun h100 => ?_)
      · first
          | (rw [if_neg (show ¬ (0 < y2.1 5 ∧ 8 ≤ y2.1 7 - y2.1 11) by omega)] at e2 hq; exact p3 _ _ c2 P2 i2 hq e2 f2)
          | (rw [if_pos (show 0 < y2.1 5 ∧ 8 ≤ y2.1 7 - y2.1 11 by omega)] at e2 hq; exact p3 _ _ c4 Ps i2 hq e2 (f2.tr hF4))
      · refine s121_103 rfl ?_
        refine s121_104 (by first | assumption | rfl) (by simp) ?_
        refine c100 c2 P2 i2 ⟨by omega, h52 (by omega)⟩ (fun g4 c4 hF4 => ?_)
        refine ⟨_, rfl, ?_⟩
        first
          | (rw [if_neg (show ¬ (0 < y2.1 5 ∧ 8 ≤ y2.1 7 - y2.1 11) by omega)] at e2 hq; exact p3 _ _ c2 P2 i2 hq e2 f2)
          | (rw [if_pos (show 0 < y2.1 5 ∧ 8 ≤ y2.1 7 - y2.1 11 by omega)] at e2 hq; exact p3 _ _ c4 Ps i2 hq e2 (f2.tr hF4))
  have hB1 : yB (B + 1) (yset (yclr y) 7 (y.1 7 + 1)) := (hB.up (by omega) (by omega)).set (by omega)
  have hP1 : rP (yset (yclr y) 7 (y.1 7 + 1)) := hP
  have hP4 := hP.2.1
  have hP4' : 1 ≤ y.1 4 ∧ y.1 4 < 1600 := hP4
  have hq := hB1.t1 (by omega)
  rw [show B + 1 + 1 = B + 2 by omega] at hq
  have Ps : rP (ysend (yset (yclr y) 7 (y.1 7 + 1)) 49 (y.1 7 + 1) 0) := hP1.send (show y.1 4 + 1 < 1600 by omega) (show ([] : List yM).length + 1 ≤ 100000 by decide)
  have tk : ytick (yclr y) = if y.1 6 = 0 then yset (yclr y) 7 (y.1 7 + 1) else if 24 ≤ y.1 7 + 1 - y.1 9 then ylogout (yset (yclr y) 7 (y.1 7 + 1)) else ytick3 (ytick2 (ytick1 (yset (yclr y) 7 (y.1 7 + 1)))) := rfl
  have t1 : ytick1 (yset (yclr y) 7 (y.1 7 + 1)) = if y.1 7 + 1 - y.1 9 = 12 then ysend (yset (yclr y) 7 (y.1 7 + 1)) 49 (y.1 7 + 1) 0 else yset (yclr y) 7 (y.1 7 + 1) := rfl
  have s19 : x_uf (x_uf g1 100 15 0) 100 22 (y.1 7 + 1) 100 19 = y.1 6 := hC1.1.at.2.2.2.1
  have s22 : x_uf (x_uf g1 100 15 0) 100 22 (y.1 7 + 1) 100 22 = y.1 7 + 1 := x_uf_eq _ _ _ _
  have s23 : x_uf (x_uf g1 100 15 0) 100 22 (y.1 7 + 1) 100 23 = y.1 9 := hC1.1.at.2.2.2.2.2.2.1
  refine s121_5 rfl ?_
  refine s121_6 ?_
  refine s121_7 (by first | assumption | rfl) (by first | assumption | (exact hpo _) | rfl | decide) (by first | assumption | decide | omega) ?_
  refine s121_10 rfl ?_
  refine s121_11 rfl ?_
  refine s121_12 (by first | assumption | rfl) (by first | assumption | (exact hpo _) | rfl | decide) (by first | assumption | decide | omega) ?_
  rw [k22]
  refine s121_15 ?_
  refine s121_16 ?_
  refine s121_17 (by first | assumption | rfl) (by first | assumption | (exact hpo _) | rfl | decide) (by first | assumption | decide | omega) ?_
  generalize x_uf (x_uf g1 100 15 0) 100 22 (y.1 7 + 1) = g2 at hC1 hF2 s19 s22 s23
  refine s121_20 rfl ?_
  refine s121_21 (by first | assumption | rfl) (by first | assumption | (exact hpo _) | rfl | decide) (by first | assumption | decide | omega) ?_
  rw [s19]
  refine s121_24 ⟨by omega, by omega⟩ (fun h24 => ?_) (fun h24 => ?_)
  · refine s121_48 rfl ?_
    refine s121_49 (by first | assumption | rfl) (by first | assumption | (exact hpo _) | rfl | decide) (by first | assumption | decide | omega) ?_
    rw [s19]
    refine s121_52 ⟨by omega, by omega⟩ (fun h52 => ?_) (fun h52 => ?_)
    · first
        | (exfalso; omega)
        | (rw [if_pos (show y.1 6 = 0 by omega)] at tk; exact fin _ _ tk hC1 hF2)
        | (rw [if_neg (show ¬ y.1 6 = 0 by omega), if_pos (show 24 ≤ y.1 7 + 1 - y.1 9 by omega)] at tk; exact fin _ _ tk c4 (hF2.tr hF4))
    · refine s121_55 rfl ?_
      refine s121_56 (by first | assumption | rfl) (by first | assumption | (exact hpo _) | rfl | decide) (by first | assumption | decide | omega) ?_
      rw [s22]
      refine s121_59 rfl ?_
      refine s121_60 (by first | assumption | rfl) (by first | assumption | (exact hpo _) | rfl | decide) (by first | assumption | decide | omega) ?_
      rw [s23]
      refine s121_63 ?_
      refine s121_64 ?_
      refine s121_66 ⟨by omega, by omega⟩ ⟨by omega, by omega⟩ (fun h66 => ?_) (fun h66 => ?_)
      · first
          | (exfalso; omega)
          | (rw [if_neg (show ¬ y.1 6 = 0 by omega), if_neg (show ¬ 24 ≤ y.1 7 + 1 - y.1 9 by omega), t1, if_neg (show ¬ y.1 7 + 1 - y.1 9 = 12 by omega)] at tk
             rw [t1, if_neg (show ¬ y.1 7 + 1 - y.1 9 = 12 by omega)] at hq
             exact p2 _ _ hC1 hP1 (show y.1 4 + 2 < 1600 by omega) (show ([] : List yM).length ≤ 90 by decide) (show y.1 6 ≠ 0 by omega) hq h5 tk hF2)
          | (rw [if_neg (show ¬ y.1 6 = 0 by omega), if_neg (show ¬ 24 ≤ y.1 7 + 1 - y.1 9 by omega), t1, if_pos (show y.1 7 + 1 - y.1 9 = 12 by omega)] at tk
             rw [t1, if_pos (show y.1 7 + 1 - y.1 9 = 12 by omega)] at hq
             exact p2 _ _ c4 Ps (show y.1 4 + 1 + 2 < 1600 by omega) (show 1 ≤ 90 by decide) (show y.1 6 ≠ 0 by omega) hq h5 tk (hF2.tr hF4))
      · refine s121_69 rfl ?_
        refine s121_70 ?_
        refine s121_72 rfl ?_
        refine s121_73 (by first | assumption | rfl) (by first | assumption | (exact hpo _) | rfl | decide) (by first | assumption | decide | omega) ?_
        rw [s22]
        refine s121_76 ?_
        refine s121_77 ?_
        refine s121_78 ?_
        refine s121_79 (by first | assumption | rfl) (by simp) ?_
        refine c98p hC1 hP1 ⟨by omega, by omega⟩ (by omega) (fun _ => rok_s (by decide) (by decide) (show 0 ≤ y.1 4 ∧ y.1 4 ≤ 999999 by omega) ⟨by omega, by omega⟩ (fun _ => by omega) ⟨by omega, by omega⟩) (fun g4 c4 hF4 => ?_)
        refine ⟨_, rfl, ?_⟩
        rw [rsend_in (y := yset (yclr y) 7 (y.1 7 + 1)) (by decide) (show y.1 6 ≠ 0 by omega)] at c4
        first
          | (exfalso; omega)
          | (rw [if_neg (show ¬ y.1 6 = 0 by omega), if_neg (show ¬ 24 ≤ y.1 7 + 1 - y.1 9 by omega), t1, if_neg (show ¬ y.1 7 + 1 - y.1 9 = 12 by omega)] at tk
             rw [t1, if_neg (show ¬ y.1 7 + 1 - y.1 9 = 12 by omega)] at hq
             exact p2 _ _ hC1 hP1 (show y.1 4 + 2 < 1600 by omega) (show ([] : List yM).length ≤ 90 by decide) (show y.1 6 ≠ 0 by omega) hq h5 tk hF2)
          | (rw [if_neg (show ¬ y.1 6 = 0 by omega), if_neg (show ¬ 24 ≤ y.1 7 + 1 - y.1 9 by omega), t1, if_pos (show y.1 7 + 1 - y.1 9 = 12 by omega)] at tk
             rw [t1, if_pos (show y.1 7 + 1 - y.1 9 = 12 by omega)] at hq
             exact p2 _ _ c4 Ps (show y.1 4 + 1 + 2 < 1600 by omega) (show 1 ≤ 90 by decide) (show y.1 6 ≠ 0 by omega) hq h5 tk (hF2.tr hF4))
  · refine s121_27 rfl ?_
    refine s121_28 (by first | assumption | rfl) (by first | assumption | (exact hpo _) | rfl | decide) (by first | assumption | decide | omega) ?_
    rw [s22]
    refine s121_31 rfl ?_
    refine s121_32 (by first | assumption | rfl) (by first | assumption | (exact hpo _) | rfl | decide) (by first | assumption | decide | omega) ?_
    rw [s23]
    refine s121_35 ?_
    refine s121_36 ?_
    refine s121_38 ⟨by omega, by omega⟩ ⟨by omega, by omega⟩ (fun h38 => ?_) (fun h38 => ?_)
    · refine s121_48 rfl ?_
      refine s121_49 (by first | assumption | rfl) (by first | assumption | (exact hpo _) | rfl | decide) (by first | assumption | decide | omega) ?_
      rw [s19]
      refine s121_52 ⟨by omega, by omega⟩ (fun h52 => ?_) (fun h52 => ?_)
      · first
          | (exfalso; omega)
          | (rw [if_pos (show y.1 6 = 0 by omega)] at tk; exact fin _ _ tk hC1 hF2)
          | (rw [if_neg (show ¬ y.1 6 = 0 by omega), if_pos (show 24 ≤ y.1 7 + 1 - y.1 9 by omega)] at tk; exact fin _ _ tk c4 (hF2.tr hF4))
      · refine s121_55 rfl ?_
        refine s121_56 (by first | assumption | rfl) (by first | assumption | (exact hpo _) | rfl | decide) (by first | assumption | decide | omega) ?_
        rw [s22]
        refine s121_59 rfl ?_
        refine s121_60 (by first | assumption | rfl) (by first | assumption | (exact hpo _) | rfl | decide) (by first | assumption | decide | omega) ?_
        rw [s23]
        refine s121_63 ?_
        refine s121_64 ?_
        refine s121_66 ⟨by omega, by omega⟩ ⟨by omega, by omega⟩ (fun h66 => ?_) (fun h66 => ?_)
        · first
            | (exfalso; omega)
            | (rw [if_neg (show ¬ y.1 6 = 0 by omega), if_neg (show ¬ 24 ≤ y.1 7 + 1 - y.1 9 by omega), t1, if_neg (show ¬ y.1 7 + 1 - y.1 9 = 12 by omega)] at tk
               rw [t1, if_neg (show ¬ y.1 7 + 1 - y.1 9 = 12 by omega)] at hq
               exact p2 _ _ hC1 hP1 (show y.1 4 + 2 < 1600 by omega) (show ([] : List yM).length ≤ 90 by decide) (show y.1 6 ≠ 0 by omega) hq h5 tk hF2)
            | (rw [if_neg (show ¬ y.1 6 = 0 by omega), if_neg (show ¬ 24 ≤ y.1 7 + 1 - y.1 9 by omega), t1, if_pos (show y.1 7 + 1 - y.1 9 = 12 by omega)] at tk
               rw [t1, if_pos (show y.1 7 + 1 - y.1 9 = 12 by omega)] at hq
               exact p2 _ _ c4 Ps (show y.1 4 + 1 + 2 < 1600 by omega) (show 1 ≤ 90 by decide) (show y.1 6 ≠ 0 by omega) hq h5 tk (hF2.tr hF4))
        · refine s121_69 rfl ?_
          refine s121_70 ?_
          refine s121_72 rfl ?_
          refine s121_73 (by first | assumption | rfl) (by first | assumption | (exact hpo _) | rfl | decide) (by first | assumption | decide | omega) ?_
          rw [s22]
          refine s121_76 ?_
          refine s121_77 ?_
          refine s121_78 ?_
          refine s121_79 (by first | assumption | rfl) (by simp) ?_
          refine c98p hC1 hP1 ⟨by omega, by omega⟩ (by omega) (fun _ => rok_s (by decide) (by decide) (show 0 ≤ y.1 4 ∧ y.1 4 ≤ 999999 by omega) ⟨by omega, by omega⟩ (fun _ => by omega) ⟨by omega, by omega⟩) (fun g4 c4 hF4 => ?_)
          refine ⟨_, rfl, ?_⟩
          rw [rsend_in (y := yset (yclr y) 7 (y.1 7 + 1)) (by decide) (show y.1 6 ≠ 0 by omega)] at c4
          first
            | (exfalso; omega)
            | (rw [if_neg (show ¬ y.1 6 = 0 by omega), if_neg (show ¬ 24 ≤ y.1 7 + 1 - y.1 9 by omega), t1, if_neg (show ¬ y.1 7 + 1 - y.1 9 = 12 by omega)] at tk
               rw [t1, if_neg (show ¬ y.1 7 + 1 - y.1 9 = 12 by omega)] at hq
               exact p2 _ _ hC1 hP1 (show y.1 4 + 2 < 1600 by omega) (show ([] : List yM).length ≤ 90 by decide) (show y.1 6 ≠ 0 by omega) hq h5 tk hF2)
            | (rw [if_neg (show ¬ y.1 6 = 0 by omega), if_neg (show ¬ 24 ≤ y.1 7 + 1 - y.1 9 by omega), t1, if_pos (show y.1 7 + 1 - y.1 9 = 12 by omega)] at tk
               rw [t1, if_pos (show y.1 7 + 1 - y.1 9 = 12 by omega)] at hq
               exact p2 _ _ c4 Ps (show y.1 4 + 1 + 2 < 1600 by omega) (show 1 ≤ 90 by decide) (show y.1 6 ≠ 0 by omega) hq h5 tk (hF2.tr hF4))
    · refine s121_41 rfl ?_
      refine s121_42 (by first | assumption | rfl) (by simp) ?_
      refine c99 hC1 hP1 (fun g4 c4 hF4 => ?_)
      refine ⟨_, rfl, ?_⟩
      rw [if_neg (show ¬ (yset (yclr y) 7 (y.1 7 + 1)).1 6 = 0 from (show ¬ y.1 6 = 0 by omega))] at c4
      refine s121_45 ?_
      first
        | (exfalso; omega)
        | (rw [if_pos (show y.1 6 = 0 by omega)] at tk; exact fin _ _ tk hC1 hF2)
        | (rw [if_neg (show ¬ y.1 6 = 0 by omega), if_pos (show 24 ≤ y.1 7 + 1 - y.1 9 by omega)] at tk; exact fin _ _ tk c4 (hF2.tr hF4))
end ML
