/-! 26.session: contracts of Session over the mathematical value. -/
section CT
variable {S : Nat × (Nat → Int32)} {μ : xM} {g : Nat → Nat → Int} {n a v : Nat} {Q : xQ} {y : yS} {B : Int}
theorem yset_eq {j : Nat} {z : Int} : (yset y j z).1 j = z := by
  show (if j = j then z else _) = z
  rw [if_pos rfl]
theorem yset_ne {i j : Nat} {z : Int} (h : i ≠ j) : (yset y j z).1 i = y.1 i := by
  show (if i = j then z else y.1 i) = _
  rw [if_neg h]
def yleave (y : yS) : yS := yset (yset y 6 0) 5 0
theorem c57 (hC : yC g y) (h : ∀ g', yC g' (yleave y) → yF g g' → Q (.inl none) (x_vm g') n) : x_V S 57 0 [some (.ref 8)] [] (x_vm g) n Q := by
  refine s57_0 rfl ?_
  refine s57_1 ?_
  refine s57_2 (by first | assumption | rfl) (by omega) (by first | assumption | (exact hpo _) | rfl | decide) (by first | assumption | decide | omega) ?_
  refine s57_5 rfl ?_
  refine s57_6 ?_
  refine s57_7 (by first | assumption | rfl) (by first | assumption | (exact hpo _) | rfl | decide) (by first | assumption | decide | omega) ?_
  refine s57_10 (st := []) ?_
  exact h _ hC.set.set (yF.u8.tr yF.u8)
def ylogout (y : yS) : yS := yleave (ysend y 53 0 0)
theorem c64 (hC : yC g y) (hB : yB B y) (h : ∀ g', yC g' (ylogout y) → yF g g' → Q (.inl none) (x_vm g') n) : x_V S 64 0 [some (.ref 8)] [] (x_vm g) n Q := by
  refine s64_0 rfl ?_
  refine s64_1 ?_
  refine s64_3 ?_
  refine s64_4 ?_
  refine s64_5 (by first | assumption | rfl) (by simp) ?_
  refine c65 hC hB (fun g1 hC1 hF1 => ?_)
  refine ⟨_, rfl, ?_⟩
  refine s64_8 rfl ?_
  refine s64_9 (by first | assumption | rfl) (by simp) ?_
  refine c57 hC1 (fun g2 hC2 hF2 => ?_)
  refine ⟨_, rfl, ?_⟩
  refine s64_12 (st := []) ?_
  exact h _ hC2 (hF1.tr hF2)
def yask (y : yS) : yS := yset (ysend y 50 (y.1 3) 0) 11 (y.1 7)
theorem c63 (hC : yC g y) (hB : yB B y) (h : ∀ g', yC g' (yask y) → yF g g' → Q (.inl none) (x_vm g') n) : x_V S 63 0 [some (.ref 8)] [] (x_vm g) n Q := by
  have e3 := hC.1 3 (by omega) (by omega)
  refine s63_0 rfl ?_
  refine s63_1 ?_
  refine s63_3 rfl ?_
  refine s63_4 (by first | assumption | rfl) (by first | assumption | (exact hpo _) | rfl | decide) (by first | assumption | decide | omega) ?_
  rw [e3]
  refine s63_7 ?_
  refine s63_8 (by first | assumption | rfl) (by simp) ?_
  refine c65 hC hB (fun g1 hC1 hF1 => ?_)
  refine ⟨_, rfl, ?_⟩
  have e7 : g1 8 7 = y.1 7 := hC1.1 7 (by omega) (by omega)
  refine s63_11 rfl ?_
  refine s63_12 rfl ?_
  refine s63_13 (by first | assumption | rfl) (by first | assumption | (exact hpo _) | rfl | decide) (by first | assumption | decide | omega) ?_
  refine s63_16 (by first | assumption | rfl) (by first | assumption | (exact hpo _) | rfl | decide) (by first | assumption | decide | omega) ?_
  refine s63_19 (st := []) ?_
  rw [e7]
  exact h _ hC1.set (hF1.tr yF.u8)
def yraise (y : yS) (m : Int) : yS := if m ≤ y.1 3 then y else if y.1 5 < m then yset (yset y 3 m) 5 0 else yset y 3 m
theorem c62 {m : Int} (hC : yC g y) (hB : yB B y) (hm : ib m) (h : ∀ g', yC g' (yraise y m) → yF g g' → Q (.inl (some (.int (I (if m ≤ y.1 3 then 0 else 1))))) (x_vm g') n) : x_V S 62 0 [some (.ref 8), some (.int (I m))] [] (x_vm g) n Q := by
  have e3 := hC.1 3 (by omega) (by omega)
  have e5 := hC.1 5 (by omega) (by omega)
  have b3 := hB.1 3 (by omega) (by omega)
  have b5 := hB.1 5 (by omega) (by omega)
  have bB := hB.2.2
  obtain ⟨m1, m2⟩ := hm
  unfold yraise at h
  have q1 : x_uf g 8 3 m 8 3 = m := x_uf_eq _ _ _ _
  have q2 : x_uf g 8 3 m 8 5 = g 8 5 := x_uf_ne (by omega)
  refine s62_0 rfl ?_
  refine s62_1 rfl ?_
  refine s62_2 (by first | assumption | rfl) (by first | assumption | (exact hpo _) | rfl | decide) (by first | assumption | decide | omega) ?_
  refine s62_5 ⟨by omega, by omega⟩ ⟨by omega, by omega⟩ (fun h5 => ?_) (fun h5 => ?_)
  · refine s62_10 rfl ?_
    refine s62_11 rfl ?_
    refine s62_12 (by first | assumption | rfl) (by first | assumption | (exact hpo _) | rfl | decide) (by first | assumption | decide | omega) ?_
    refine s62_15 rfl ?_
    refine s62_16 (by first | assumption | rfl) (by first | assumption | (exact hpo _) | rfl | decide) (by first | assumption | decide | omega) ?_
    refine s62_19 rfl ?_
    refine s62_20 (by first | assumption | rfl) (by first | assumption | (exact hpo _) | rfl | decide) (by first | assumption | decide | omega) ?_
    refine s62_23 ⟨by omega, by omega⟩ ⟨by omega, by omega⟩ (fun h23 => ?_) (fun h23 => ?_)
    · refine s62_31 ?_
      refine s62_32 (st := []) (by omega) ?_
      have z1 : ¬ m ≤ y.1 3 := by omega
      rw [if_neg z1, if_neg z1] at h
      rw [q1, q2] at h23
      first
        | (rw [if_pos (show y.1 5 < m by omega)] at h; exact h _ hC.set.set (yF.u8.tr yF.u8))
        | (rw [if_neg (show ¬ y.1 5 < m by omega)] at h; exact h _ hC.set yF.u8)
    · refine s62_26 rfl ?_
      refine s62_27 ?_
      refine s62_28 (by first | assumption | rfl) (by first | assumption | (exact hpo _) | rfl | decide) (by first | assumption | decide | omega) ?_
      refine s62_31 ?_
      refine s62_32 (st := []) (by omega) ?_
      have z1 : ¬ m ≤ y.1 3 := by omega
      rw [if_neg z1, if_neg z1] at h
      rw [q1, q2] at h23
      first
        | (rw [if_pos (show y.1 5 < m by omega)] at h; exact h _ hC.set.set (yF.u8.tr yF.u8))
        | (rw [if_neg (show ¬ y.1 5 < m by omega)] at h; exact h _ hC.set yF.u8)
  · refine s62_8 ?_
    refine s62_9 (st := []) (by omega) ?_
    have z1 : m ≤ y.1 3 := by omega
    rw [if_pos z1, if_pos z1] at h
    exact h _ hC yF.rf
def ygap (y : yS) (f b : Int) : yS := if f < b then ypost y (52, f, 1, b, 1, 0, 0) else y
theorem c67 {f b : Int} (hC : yC g y) (hB : yB B y) (hf : ib f) (hb : ib b) (h : ∀ g', yC g' (ygap y f b) → yF g g' → Q (.inl none) (x_vm g') n) : x_V S 67 0 [some (.ref 8), some (.int (I f)), some (.int (I b))] [] (x_vm g) n Q := by
  obtain ⟨f1, f2⟩ := hf
  obtain ⟨b1, b2⟩ := hb
  have e92 := hC.2.1.1
  have hb2 := hB.2.1
  have hb3 := hB.2.2
  obtain ⟨k, hk2, hk⟩ := yk (g := g) (by omega)
  have hmk := x_msgk k (by omega)
  have hm1 := hmk.1
  unfold ygap at h
  refine s67_0 rfl ?_
  refine s67_1 rfl ?_
  refine s67_2 ⟨by omega, by omega⟩ ⟨by omega, by omega⟩ (fun h2 => ?_) (fun h2 => ?_)
  · refine s67_20 (st := []) ?_
    first
      | (rw [if_neg (by omega)] at h; exact h _ hC yF.rf)
      | (rw [if_pos (by omega)] at h; exact h _ (hC.post hk) (yF.post hk2))
  · refine s67_5 rfl ?_
    refine s67_6 ?_
    refine s67_8 rfl ?_
    refine s67_9 ?_
    refine s67_10 (by first | assumption | rfl) (by simp) ?_
    refine c68 (k := k) ⟨by omega, by omega⟩ (Or.inr rfl) hk ?_
    refine ⟨_, rfl, ?_⟩
    refine s67_13 rfl ?_
    refine s67_14 ?_
    refine s67_15 ?_
    refine s67_16 ?_
    refine s67_17 (by first | assumption | rfl) (by simp) ?_
    refine c23 hmk ?_
    refine ⟨_, rfl, ?_⟩
    refine s67_20 (st := []) ?_
    first
      | (rw [if_neg (by omega)] at h; exact h _ hC yF.rf)
      | (rw [if_pos (by omega)] at h; exact h _ (hC.post hk) (yF.post hk2))
def ylow (y : yS) (d : Int) : yS := if d = 0 ∧ y.1 6 ≠ 0 then ylogout y else y
theorem c59 {d : Int} (hC : yC g y) (hB : yB B y) (hd : d = 0 ∨ d = 1) (h : ∀ g', yC g' (ylow y d) → yF g g' → Q (.inl (some (.int (I (if d = 0 then 4 else 1))))) (x_vm g') n) : x_V S 59 0 [some (.ref 8), some (.int (I d))] [] (x_vm g) n Q := by
  have e6 := hC.1 6 (by omega) (by omega)
  have b6 := hB.1 6 (by omega) (by omega)
  have bB := hB.2.2
  unfold ylow at h
  refine s59_0 rfl ?_
  refine s59_1 ⟨by omega, by omega⟩ (fun h1 => ?_) (fun h1 => ?_)
  · refine s59_6 rfl ?_
    refine s59_7 (by first | assumption | rfl) (by first | assumption | (exact hpo _) | rfl | decide) (by first | assumption | decide | omega) ?_
    refine s59_10 ⟨by omega, by omega⟩ (fun h10 => ?_) (fun h10 => ?_)
    · refine s59_17 ?_
      refine s59_18 (st := []) ?_
      first
        | (rw [if_pos (by omega)] at h; rw [if_pos (by omega)] at h; exact h _ hC1 hF1)
        | (rw [if_neg (by omega)] at h; rw [if_pos (by omega)] at h; exact h _ hC yF.rf)
    · refine s59_13 rfl ?_
      refine s59_14 (by first | assumption | rfl) (by simp) ?_
      refine c64 hC hB (fun g1 hC1 hF1 => ?_)
      refine ⟨_, rfl, ?_⟩
      refine s59_17 ?_
      refine s59_18 (st := []) ?_
      first
        | (rw [if_pos (by omega)] at h; rw [if_pos (by omega)] at h; exact h _ hC1 hF1)
        | (rw [if_neg (by omega)] at h; rw [if_pos (by omega)] at h; exact h _ hC yF.rf)
  · refine s59_4 ?_
    refine s59_5 (st := []) ?_
    rw [if_neg (by omega)] at h
    rw [if_neg (by omega)] at h
    exact h _ hC yF.rf
def ytick1 (y : yS) : yS := if y.1 7 - y.1 9 = 12 then ysend y 49 (y.1 7) 0 else y
def ytick2 (y : yS) : yS := if 0 < y.1 5 ∧ 8 ≤ y.1 7 - y.1 11 then yask y else y
def ytick3 (y : yS) : yS := if 10 ≤ y.1 7 - y.1 10 then ysend y 48 (-1) 0 else y
def ytick (y : yS) : yS := if y.1 6 = 0 then yset y 7 (y.1 7 + 1) else if 24 ≤ y.1 7 + 1 - y.1 9 then ylogout (yset y 7 (y.1 7 + 1)) else ytick3 (ytick2 (ytick1 (yset y 7 (y.1 7 + 1))))
theorem yB.t1 (hB : yB B y) (h : B + 1 ≤ 100000000) : yB (B + 1) (ytick1 y) := by
  unfold ytick1
  split
  · exact hB.send h
  · exact hB.up (by omega) h
theorem yB.ask (hB : yB B y) (h : B + 1 ≤ 100000000) : yB (B + 1) (yask y) := (hB.send h).set (by have := hB.1 7 (by omega) (by omega); omega)
theorem yB.t2 (hB : yB B y) (h : B + 1 ≤ 100000000) : yB (B + 1) (ytick2 y) := by
  unfold ytick2
  split
  · exact hB.ask h
  · exact hB.up (by omega) h
theorem c56 (hC : yC g y) (hB : yB B y) (hB2 : B + 10 ≤ 100000000) (h : ∀ g', yC g' (ytick y) → yF g g' → Q (.inl none) (x_vm g') n) : x_V S 56 0 [some (.ref 8)] [] (x_vm g) n Q := by
  have e7 := hC.1 7 (by omega) (by omega)
  have b7 := hB.1 7 (by omega) (by omega)
  have p3 : ∀ (y3 : yS) (g3 : Nat → Nat → Int), yC g3 y3 → yB (B + 3) y3 → (∀ g', yC g' (ytick3 y3) → yF g3 g' → Q (.inl none) (x_vm g') n) → x_V S 56 87 [some (.ref 8)] [] (x_vm g3) n Q := by
    intro y3 g3 hC3 hB3 h3
    have e7 := hC3.1 7 (by omega) (by omega)
    have e10 := hC3.1 10 (by omega) (by omega)
    have b7 := hB3.1 7 (by omega) (by omega)
    have b10 := hB3.1 10 (by omega) (by omega)
    unfold ytick3 at h3
    refine s56_87 rfl ?_
    refine s56_88 (by first | assumption | rfl) (by first | assumption | (exact hpo _) | rfl | decide) (by first | assumption | decide | omega) ?_
    refine s56_91 rfl ?_
    refine s56_92 (by first | assumption | rfl) (by first | assumption | (exact hpo _) | rfl | decide) (by first | assumption | decide | omega) ?_
    refine s56_95 ?_
    refine s56_96 ?_
    refine s56_98 ⟨by omega, by omega⟩ ⟨by omega, by omega⟩ (fun h98 => ?_) (fun h98 => ?_)
    · refine s56_109 (st := []) ?_
      first
        | (rw [if_neg (by omega)] at h3; exact h3 _ hC3 yF.rf)
        | (rw [if_pos (by omega)] at h3; exact h3 _ hC4 hF4)
    · refine s56_101 rfl ?_
      refine s56_102 ?_
      refine s56_104 ?_
      refine s56_105 ?_
      refine s56_106 (by first | assumption | rfl) (by simp) ?_
      refine c65 hC3 hB3 (fun g4 hC4 hF4 => ?_)
      refine ⟨_, rfl, ?_⟩
      refine s56_109 (st := []) ?_
      first
        | (rw [if_neg (by omega)] at h3; exact h3 _ hC3 yF.rf)
        | (rw [if_pos (by omega)] at h3; exact h3 _ hC4 hF4)
  have p2 : ∀ (y2 : yS) (g2 : Nat → Nat → Int), yC g2 y2 → yB (B + 2) y2 → (∀ g', yC g' (ytick3 (ytick2 y2)) → yF g2 g' → Q (.inl none) (x_vm g') n) → x_V S 56 62 [some (.ref 8)] [] (x_vm g2) n Q := by
    intro y2 g2 hC2 hB2' h2
    have e5 := hC2.1 5 (by omega) (by omega)
    have e7 := hC2.1 7 (by omega) (by omega)
    have e11 := hC2.1 11 (by omega) (by omega)
    have b5 := hB2'.1 5 (by omega) (by omega)
    have b7 := hB2'.1 7 (by omega) (by omega)
    have b11 := hB2'.1 11 (by omega) (by omega)
    have hq := hB2'.t2 (by omega)
    rw [show B + 2 + 1 = B + 3 by omega] at hq
    unfold ytick2 at h2 hq
    refine s56_62 rfl ?_
    refine s56_63 (by first | assumption | rfl) (by first | assumption | (exact hpo _) | rfl | decide) (by first | assumption | decide | omega) ?_
    refine s56_66 ⟨by omega, by omega⟩ (fun h66 => ?_) (fun h66 => ?_)
    · first
        | (rw [if_neg (by omega)] at h2 hq; exact p3 _ _ hC2 hq h2)
        | (rw [if_pos (by omega)] at h2 hq; exact p3 _ _ hC4 hq (fun g' q1 q2 => h2 g' q1 (hF4.tr q2)))
    · refine s56_69 rfl ?_
      refine s56_70 (by first | assumption | rfl) (by first | assumption | (exact hpo _) | rfl | decide) (by first | assumption | decide | omega) ?_
      refine s56_73 rfl ?_
      refine s56_74 (by first | assumption | rfl) (by first | assumption | (exact hpo _) | rfl | decide) (by first | assumption | decide | omega) ?_
      refine s56_77 ?_
      refine s56_78 ?_
      refine s56_80 ⟨by omega, by omega⟩ ⟨by omega, by omega⟩ (fun h80 => ?_) (fun h80 => ?_)
      · first
          | (rw [if_neg (by omega)] at h2 hq; exact p3 _ _ hC2 hq h2)
          | (rw [if_pos (by omega)] at h2 hq; exact p3 _ _ hC4 hq (fun g' q1 q2 => h2 g' q1 (hF4.tr q2)))
      · refine s56_83 rfl ?_
        refine s56_84 (by first | assumption | rfl) (by simp) ?_
        refine c63 hC2 hB2' (fun g4 hC4 hF4 => ?_)
        refine ⟨_, rfl, ?_⟩
        first
          | (rw [if_neg (by omega)] at h2 hq; exact p3 _ _ hC2 hq h2)
          | (rw [if_pos (by omega)] at h2 hq; exact p3 _ _ hC4 hq (fun g' q1 q2 => h2 g' q1 (hF4.tr q2)))
  have hC1 := hC.set (j := 7) (z := y.1 7 + 1)
  have hB1 : yB (B + 1) (yset y 7 (y.1 7 + 1)) := (hB.up (by omega) (by omega)).set (by omega)
  have f6 : x_uf g 8 7 (y.1 7 + 1) 8 6 = y.1 6 := by rw [x_uf_ne (by omega)]; exact hC.1 6 (by omega) (by omega)
  have f7 : x_uf g 8 7 (y.1 7 + 1) 8 7 = y.1 7 + 1 := x_uf_eq _ _ _ _
  have f9 : x_uf g 8 7 (y.1 7 + 1) 8 9 = y.1 9 := by rw [x_uf_ne (by omega)]; exact hC.1 9 (by omega) (by omega)
  have b6 := hB.1 6 (by omega) (by omega)
  have b9 := hB.1 9 (by omega) (by omega)
  unfold ytick at h
  refine s56_0 rfl ?_
  refine s56_1 rfl ?_
  refine s56_2 (by first | assumption | rfl) (by first | assumption | (exact hpo _) | rfl | decide) (by first | assumption | decide | omega) ?_
  rw [e7]
  refine s56_5 ?_
  refine s56_6 ?_
  refine s56_7 (by first | assumption | rfl) (by first | assumption | (exact hpo _) | rfl | decide) (by first | assumption | decide | omega) ?_
  refine s56_10 rfl ?_
  refine s56_11 (by first | assumption | rfl) (by first | assumption | (exact hpo _) | rfl | decide) (by first | assumption | decide | omega) ?_
  refine s56_14 ⟨by omega, by omega⟩ (fun h14 => ?_) (fun h14 => ?_)
  · refine s56_18 rfl ?_
    refine s56_19 (by first | assumption | rfl) (by first | assumption | (exact hpo _) | rfl | decide) (by first | assumption | decide | omega) ?_
    refine s56_22 rfl ?_
    refine s56_23 (by first | assumption | rfl) (by first | assumption | (exact hpo _) | rfl | decide) (by first | assumption | decide | omega) ?_
    refine s56_26 ?_
    refine s56_27 ?_
    refine s56_29 ⟨by omega, by omega⟩ ⟨by omega, by omega⟩ (fun h29 => ?_) (fun h29 => ?_)
    · refine s56_37 rfl ?_
      refine s56_38 (by first | assumption | rfl) (by first | assumption | (exact hpo _) | rfl | decide) (by first | assumption | decide | omega) ?_
      refine s56_41 rfl ?_
      refine s56_42 (by first | assumption | rfl) (by first | assumption | (exact hpo _) | rfl | decide) (by first | assumption | decide | omega) ?_
      refine s56_45 ?_
      refine s56_46 ?_
      refine s56_48 ⟨by omega, by omega⟩ ⟨by omega, by omega⟩ (fun h48 => ?_) (fun h48 => ?_)
      · rw [if_neg (by omega), if_neg (by omega)] at h
        have g7 : (yset y 7 (y.1 7 + 1)).1 7 = y.1 7 + 1 := yset_eq
        have g9 : (yset y 7 (y.1 7 + 1)).1 9 = y.1 9 := yset_ne (by omega)
        have hq := hB1.t1 (by omega)
        rw [show B + 1 + 1 = B + 2 by omega] at hq
        unfold ytick1 at h hq
        rw [g7, g9] at h hq
        first
          | (rw [if_neg (by omega)] at h hq; exact p2 _ _ hC1 hq (fun g' q1 q2 => h g' q1 (yF.u8.tr q2)))
          | (rw [if_pos (by omega)] at h hq; exact p2 _ _ hC2 hq (fun g' q1 q2 => h g' q1 ((yF.u8.tr hF2).tr q2)))
      · refine s56_51 rfl ?_
        refine s56_52 ?_
        refine s56_54 rfl ?_
        refine s56_55 (by first | assumption | rfl) (by first | assumption | (exact hpo _) | rfl | decide) (by first | assumption | decide | omega) ?_
        refine s56_58 ?_
        refine s56_59 (by first | assumption | rfl) (by simp) ?_
        rw [f7]
        refine c65 hC1 hB1 (fun g2 hC2 hF2 => ?_)
        refine ⟨_, rfl, ?_⟩
        rw [if_neg (by omega), if_neg (by omega)] at h
        have g7 : (yset y 7 (y.1 7 + 1)).1 7 = y.1 7 + 1 := yset_eq
        have g9 : (yset y 7 (y.1 7 + 1)).1 9 = y.1 9 := yset_ne (by omega)
        have hq := hB1.t1 (by omega)
        rw [show B + 1 + 1 = B + 2 by omega] at hq
        unfold ytick1 at h hq
        rw [g7, g9] at h hq
        first
          | (rw [if_neg (by omega)] at h hq; exact p2 _ _ hC1 hq (fun g' q1 q2 => h g' q1 (yF.u8.tr q2)))
          | (rw [if_pos (by omega)] at h hq; exact p2 _ _ hC2 hq (fun g' q1 q2 => h g' q1 ((yF.u8.tr hF2).tr q2)))
    · refine s56_32 rfl ?_
      refine s56_33 (by first | assumption | rfl) (by simp) ?_
      refine c64 hC1 hB1 (fun g2 hC2 hF2 => ?_)
      refine ⟨_, rfl, ?_⟩
      refine s56_36 (st := []) ?_
      rw [if_neg (by omega), if_pos (by omega)] at h
      exact h _ hC2 (yF.u8.tr hF2)
  · refine s56_17 (st := []) ?_
    rw [if_pos (by omega)] at h
    exact h _ hC1 yF.u8
end CT
