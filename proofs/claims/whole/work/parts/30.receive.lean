/-! 30.receive: Session.receive, whole. -/
section CV
variable {S : Nat × (Nat → Int32)} {μ : xM} {g : Nat → Nat → Int} {n v : Nat} {Q : xQ} {y : yS} {B : Int}
def yin (y : yS) (a : Int) : yS := if y.1 6 = 0 then ysend (yset y 6 1) 65 a 0 else y
/-- a message that is neither ignored as a whole nor a reset nor low -/
def yhigh (y : yS) (t m a b c : Int) : Int × yS := if y.1 3 < m then (3, yearly y t m a b) else (2, yturn (yraise y (y.1 3 + 1)) t a b c)
def yrecv1 (y : yS) (t m d a b c : Int) : Int × yS :=
  if t = 52 ∧ ¬ 0 < b then (if a ≤ y.1 3 then 1 else 2, yraise y a)
  else if m < y.1 3 then (if d = 0 then 4 else 1, ylow y d)
  else yhigh (yin y a) t m a b c
def yrecv (y : yS) (t m d a b c : Int) : Int × yS := if y.1 6 = 0 ∧ t ≠ 65 then (1, y) else yrecv1 (yset y 9 (y.1 7)) t m d a b c
theorem yB.inn {a : Int} (hB : yB B y) (h : B + 1 ≤ 100000000) (h1 : 1 ≤ B) : yB (B + 1) (yin y a) := by
  unfold yin
  split
  · exact (hB.set ⟨by omega, by omega⟩).send h
  · exact hB.up (by omega) h
theorem yin_2 {a : Int} : (yin y a).2.2 = y.2.2 := by
  unfold yin
  split <;> rfl
theorem yin_3 {a : Int} : (yin y a).1 3 = y.1 3 := by
  unfold yin
  split <;> rfl
theorem c55 {t m d a b c : Int} (hC : yC g y) (hB : yB B y) (hB1 : 1 ≤ B) (hB2 : B + 1300 ≤ 100000000) (hN : yN y) (hO : yO y) (hu : y.2.2.2.2.length < 512) (hl : y.2.2.1.length < 512) (hH : yH g t m d a b c) (hh : yHB t m d a b c) (h : ∀ g', yC g' (yrecv y t m d a b c).2 → yF g g' → Q (.inl (some (.int (I (yrecv y t m d a b c).1)))) (x_vm g') n) : x_V S 55 0 [some (.ref 8), some (.ref 6)] [] (x_vm g) n Q := by
  have hhm := hh.2.1
  have hha := hh.2.2.2.1
  have hhb := hh.2.2.2.2.1
  have hhd := hh.2.2.1
  have ht : 48 ≤ t ∧ t ≤ 71 := by have := hh.1; unfold ypt at this; omega
  have p3 : ∀ (y3 : yS) (g3 : Nat → Nat → Int), yC g3 y3 → yB (B + 1) y3 → y3.2.2 = y.2.2 → yH g3 t m d a b c → (∀ g', yC g' (yhigh y3 t m a b c).2 → yF g3 g' → Q (.inl (some (.int (I (yhigh y3 t m a b c).1)))) (x_vm g') n) → x_V S 55 106 [some (.ref 8), some (.ref 6)] [] (x_vm g3) n Q := by
    intro y3 g3 hC3 hB3 e3 hH3 h3
    have e33 := hC3.1 3 (by omega) (by omega)
    have b33 := hB3.1 3 (by omega) (by omega)
    have em := hH3.2.1
    have hN3 : yN y3 := by unfold yN; rw [e3]; exact hN
    have hO3 : ∀ y4 : yS, y4.2 = y3.2 → yO y4 := fun y4 e => by unfold yO; rw [e, e3]; exact hO
    have hN4 : ∀ y4 : yS, y4.2 = y3.2 → yN y4 := fun y4 e => by unfold yN; rw [e, e3]; exact hN
    unfold yhigh at h3
    refine s55_106 rfl ?_
    refine s55_107 (by first | assumption | rfl) (by first | assumption | (exact hpo _) | rfl | decide) (by first | assumption | decide | omega) ?_
    refine s55_110 rfl ?_
    refine s55_111 (by first | assumption | rfl) (by first | assumption | (exact hpo _) | rfl | decide) (by first | assumption | decide | omega) ?_
    refine s55_114 ⟨by omega, by omega⟩ ⟨by omega, by omega⟩ (fun h114 => ?_) (fun h114 => ?_)
    · refine s55_123 rfl ?_
      refine s55_124 rfl ?_
      refine s55_125 (by first | assumption | rfl) (by first | assumption | (exact hpo _) | rfl | decide) (by first | assumption | decide | omega) ?_
      refine s55_128 ?_
      refine s55_129 ?_
      refine s55_130 (by first | assumption | rfl) (by simp) ?_
      rw [if_neg (show ¬ y3.1 3 < m by omega)] at h3
      rw [e33]
      refine c62 hC3 hB3 ⟨by omega, by omega⟩ (fun g4 hC4 hF4 => ?_)
      refine ⟨_, rfl, ?_⟩
      refine s55_133 rfl ?_
      refine s55_134 rfl ?_
      refine s55_135 rfl ?_
      refine s55_136 rfl (by first | assumption | rfl) (by simp) ?_
      refine c61 hC4 (hB3.up (by omega) (by omega) |>.raise (B := B + 2) ⟨by omega, by omega⟩) (by omega) (hN4 _ yraise_2) (hO3 _ yraise_2) (by rw [yraise_2, e3]; exact hu) (by rw [yraise_2, e3]; exact hl) (hH3.tr hF4) hh (fun g5 hC5 hF5 => ?_)
      refine ⟨_, rfl, ?_⟩
      refine s55_139 ?_
      refine s55_140 (st := []) ?_
      exact h3 _ hC5 (hF4.tr hF5)
    · refine s55_117 rfl ?_
      refine s55_118 rfl ?_
      refine s55_119 rfl (by first | assumption | rfl) (by simp) ?_
      rw [if_pos (show y3.1 3 < m by omega)] at h3
      refine c60 hC3 hB3 (by omega) hN3 hH3 hh (fun g4 hC4 hF4 => ?_)
      refine ⟨_, rfl, ?_⟩
      refine s55_122 (st := []) ?_
      exact h3 _ hC4 hF4
  have p2 : ∀ (y3 : yS) (g3 : Nat → Nat → Int), yC g3 y3 → yB B y3 → y3.2.2 = y.2.2 → yH g3 t m d a b c → (∀ g', yC g' (yhigh (yin y3 a) t m a b c).2 → yF g3 g' → Q (.inl (some (.int (I (yhigh (yin y3 a) t m a b c).1)))) (x_vm g') n) → x_V S 55 81 [some (.ref 8), some (.ref 6)] [] (x_vm g3) n Q := by
    intro y3 g3 hC3 hB3 e3 hH3 h3
    have e36 := hC3.1 6 (by omega) (by omega)
    have b36 := hB3.1 6 (by omega) (by omega)
    have ea' : x_uf g3 8 6 1 7 (Int.toNat 0) = a := by rw [x_uf_ne (by omega)]; exact hH3.2.2.2.1
    have hBi := hB3.inn (a := a) (by omega) hB1
    have ei : (yin y3 a).2.2 = y.2.2 := by rw [yin_2]; exact e3
    unfold yin at h3 hBi ei
    refine s55_81 rfl ?_
    refine s55_82 (by first | assumption | rfl) (by first | assumption | (exact hpo _) | rfl | decide) (by first | assumption | decide | omega) ?_
    refine s55_85 ⟨by omega, by omega⟩ (fun h85 => ?_) (fun h85 => ?_)
    · first
        | (rw [if_neg (show ¬ y3.1 6 = 0 by omega)] at h3 hBi ei; exact p3 _ _ hC3 hBi ei hH3 h3)
        | (rw [if_pos (show y3.1 6 = 0 by omega)] at h3 hBi ei; exact p3 _ _ hC4 hBi ei (hH3.tr (yF.u8.tr hF4)) (fun g' q1 q2 => h3 g' q1 ((yF.u8.tr hF4).tr q2)))
    · refine s55_88 rfl ?_
      refine s55_89 ?_
      refine s55_90 (by first | assumption | rfl) (by omega) (by first | assumption | (exact hpo _) | rfl | decide) (by first | assumption | decide | omega) ?_
      refine s55_93 rfl ?_
      refine s55_94 ?_
      refine s55_96 rfl ?_
      refine s55_97 (by first | assumption | rfl) (by first | assumption | (exact hpo _) | rfl | decide) ?_
      refine s55_100 ?_
      refine v_iald d55_101 (by first | assumption | rfl) (by omega) (by omega) (by omega) (by first | assumption | (exact hpo _) | rfl | decide) (by first | assumption | decide | omega) ?_
      rw [ea']
      refine s55_102 ?_
      refine s55_103 (by first | assumption | rfl) (by simp) ?_
      refine c65 hC3.set (hB3.set (j := 6) (z := 1) ⟨by omega, hB1⟩) (fun g4 hC4 hF4 => ?_)
      refine ⟨_, rfl, ?_⟩
      first
        | (rw [if_neg (show ¬ y3.1 6 = 0 by omega)] at h3 hBi ei; exact p3 _ _ hC3 hBi ei hH3 h3)
        | (rw [if_pos (show y3.1 6 = 0 by omega)] at h3 hBi ei; exact p3 _ _ hC4 hBi ei (hH3.tr (yF.u8.tr hF4)) (fun g' q1 q2 => h3 g' q1 ((yF.u8.tr hF4).tr q2)))
  have p1 : ∀ (y3 : yS) (g3 : Nat → Nat → Int), yC g3 y3 → yB B y3 → y3.2.2 = y.2.2 → yH g3 t m d a b c → (∀ g', yC g' (yrecv1 y3 t m d a b c).2 → yF g3 g' → Q (.inl (some (.int (I (yrecv1 y3 t m d a b c).1)))) (x_vm g') n) → x_V S 55 26 [some (.ref 8), some (.ref 6)] [] (x_vm g3) n Q := by
    intro y3 g3 hC3 hB3 e3 hH3 h3
    have e33 := hC3.1 3 (by omega) (by omega)
    have b33 := hB3.1 3 (by omega) (by omega)
    obtain ⟨et, em, ed, ea, eb, ec⟩ := hH3
    have hH3 : yH g3 t m d a b c := ⟨et, em, ed, ea, eb, ec⟩
    have ea' : g3 7 (Int.toNat 0) = a := ea
    have hz : (if 0 < b then (1 : Int) else 0) = 0 ∧ ¬ 0 < b ∨ (if 0 < b then (1 : Int) else 0) = 1 ∧ 0 < b := by
      split
      · exact Or.inr ⟨rfl, by assumption⟩
      · exact Or.inl ⟨rfl, by assumption⟩
    have hw : (if a ≤ y3.1 3 then (0 : Int) else 1) = 0 ∧ a ≤ y3.1 3 ∨ (if a ≤ y3.1 3 then (0 : Int) else 1) = 1 ∧ ¬ a ≤ y3.1 3 := by
      split
      · exact Or.inl ⟨rfl, by assumption⟩
      · exact Or.inr ⟨rfl, by assumption⟩
    unfold yrecv1 at h3
    refine s55_26 rfl ?_
    refine s55_27 (by first | assumption | rfl) (by first | assumption | (exact hpo _) | rfl | decide) (by first | assumption | decide | omega) ?_
    rw [et]
    refine s55_30 ?_
    refine s55_32 ⟨by omega, by omega⟩ ⟨by omega, by omega⟩ (fun h32 => ?_) (fun h32 => ?_)
    · refine s55_61 rfl ?_
      refine s55_62 (by first | assumption | rfl) (by first | assumption | (exact hpo _) | rfl | decide) (by first | assumption | decide | omega) ?_
      rw [em]
      refine s55_65 rfl ?_
      refine s55_66 (by first | assumption | rfl) (by first | assumption | (exact hpo _) | rfl | decide) (by first | assumption | decide | omega) ?_
      refine s55_69 ⟨by omega, by omega⟩ ⟨by omega, by omega⟩ (fun h69 => ?_) (fun h69 => ?_)
      · rw [if_neg (show ¬ (t = 52 ∧ ¬ 0 < b) by omega), if_neg (show ¬ m < y3.1 3 by omega)] at h3
        exact p2 _ _ hC3 hB3 e3 hH3 h3
      · refine s55_72 rfl ?_
        refine s55_73 rfl ?_
        refine s55_74 (by first | assumption | rfl) (by first | assumption | (exact hpo _) | rfl | decide) (by first | assumption | decide | omega) ?_
        rw [ed]
        refine s55_77 (by first | assumption | rfl) (by simp) ?_
        rw [if_neg (show ¬ (t = 52 ∧ ¬ 0 < b) by omega), if_pos (show m < y3.1 3 by omega)] at h3
        refine c59 hC3 hB3 hhd (fun g4 hC4 hF4 => ?_)
        refine ⟨_, rfl, ?_⟩
        refine s55_80 (st := []) ?_
        exact h3 _ hC4 hF4
    · refine s55_35 rfl ?_
      refine s55_36 (by first | assumption | rfl) (by simp) ?_
      refine c24 x_msg6 (by rw [eb]; exact ⟨by omega, by omega⟩) ?_
      refine ⟨_, rfl, ?_⟩
      rw [eb]
      refine s55_39 ⟨by omega, by omega⟩ (fun h39 => ?_) (fun h39 => ?_)
      · refine s55_61 rfl ?_
        refine s55_62 (by first | assumption | rfl) (by first | assumption | (exact hpo _) | rfl | decide) (by first | assumption | decide | omega) ?_
        rw [em]
        refine s55_65 rfl ?_
        refine s55_66 (by first | assumption | rfl) (by first | assumption | (exact hpo _) | rfl | decide) (by first | assumption | decide | omega) ?_
        refine s55_69 ⟨by omega, by omega⟩ ⟨by omega, by omega⟩ (fun h69 => ?_) (fun h69 => ?_)
        · rw [if_neg (show ¬ (t = 52 ∧ ¬ 0 < b) by omega), if_neg (show ¬ m < y3.1 3 by omega)] at h3
          exact p2 _ _ hC3 hB3 e3 hH3 h3
        · refine s55_72 rfl ?_
          refine s55_73 rfl ?_
          refine s55_74 (by first | assumption | rfl) (by first | assumption | (exact hpo _) | rfl | decide) (by first | assumption | decide | omega) ?_
          rw [ed]
          refine s55_77 (by first | assumption | rfl) (by simp) ?_
          rw [if_neg (show ¬ (t = 52 ∧ ¬ 0 < b) by omega), if_pos (show m < y3.1 3 by omega)] at h3
          refine c59 hC3 hB3 hhd (fun g4 hC4 hF4 => ?_)
          refine ⟨_, rfl, ?_⟩
          refine s55_80 (st := []) ?_
          exact h3 _ hC4 hF4
      · refine s55_42 rfl ?_
        refine s55_43 rfl ?_
        refine s55_44 (by first | assumption | rfl) (by first | assumption | (exact hpo _) | rfl | decide) ?_
        refine s55_47 ?_
        refine v_iald d55_48 (by first | assumption | rfl) (by omega) (by omega) (by omega) (by first | assumption | (exact hpo _) | rfl | decide) (by first | assumption | decide | omega) ?_
        rw [ea']
        refine s55_49 (by first | assumption | rfl) (by simp) ?_
        rw [if_pos (show t = 52 ∧ ¬ 0 < b by omega)] at h3
        refine c62 hC3 hB3 ⟨by omega, by omega⟩ (fun g4 hC4 hF4 => ?_)
        refine ⟨_, rfl, ?_⟩
        refine s55_52 ⟨by omega, by omega⟩ (fun h52 => ?_) (fun h52 => ?_)
        · refine s55_59 ?_
          refine s55_60 (st := []) ?_
          first
            | (rw [if_pos (show a ≤ y3.1 3 by omega)] at h3; exact h3 _ hC4 hF4)
            | (rw [if_neg (show ¬ a ≤ y3.1 3 by omega)] at h3; exact h3 _ hC4 hF4)
        · refine s55_55 ?_
          refine s55_56 ?_
          refine s55_60 (st := []) ?_
          first
            | (rw [if_pos (show a ≤ y3.1 3 by omega)] at h3; exact h3 _ hC4 hF4)
            | (rw [if_neg (show ¬ a ≤ y3.1 3 by omega)] at h3; exact h3 _ hC4 hF4)
  have e6 := hC.1 6 (by omega) (by omega)
  have b6 := hB.1 6 (by omega) (by omega)
  have e7 := hC.1 7 (by omega) (by omega)
  have et := hH.1
  unfold yrecv at h
  refine s55_0 rfl ?_
  refine s55_1 (by first | assumption | rfl) (by first | assumption | (exact hpo _) | rfl | decide) (by first | assumption | decide | omega) ?_
  refine s55_4 ⟨by omega, by omega⟩ (fun h4 => ?_) (fun h4 => ?_)
  · refine s55_18 rfl ?_
    refine s55_19 rfl ?_
    refine s55_20 (by first | assumption | rfl) (by first | assumption | (exact hpo _) | rfl | decide) (by first | assumption | decide | omega) ?_
    rw [e7]
    refine s55_23 (by first | assumption | rfl) (by first | assumption | (exact hpo _) | rfl | decide) (by first | assumption | decide | omega) ?_
    rw [if_neg (show ¬ (y.1 6 = 0 ∧ t ≠ 65) by omega)] at h
    exact p1 _ _ hC.set (hB.set (hB.1 7 (by omega) (by omega))) rfl (hH.tr yF.u8) (fun g' q1 q2 => h g' q1 (yF.u8.tr q2))
  · refine s55_7 rfl ?_
    refine s55_8 (by first | assumption | rfl) (by first | assumption | (exact hpo _) | rfl | decide) (by first | assumption | decide | omega) ?_
    rw [et]
    refine s55_11 ?_
    refine s55_13 ⟨by omega, by omega⟩ ⟨by omega, by omega⟩ (fun h13 => ?_) (fun h13 => ?_)
    · refine s55_18 rfl ?_
      refine s55_19 rfl ?_
      refine s55_20 (by first | assumption | rfl) (by first | assumption | (exact hpo _) | rfl | decide) (by first | assumption | decide | omega) ?_
      rw [e7]
      refine s55_23 (by first | assumption | rfl) (by first | assumption | (exact hpo _) | rfl | decide) (by first | assumption | decide | omega) ?_
      rw [if_neg (show ¬ (y.1 6 = 0 ∧ t ≠ 65) by omega)] at h
      exact p1 _ _ hC.set (hB.set (hB.1 7 (by omega) (by omega))) rfl (hH.tr yF.u8) (fun g' q1 q2 => h g' q1 (yF.u8.tr q2))
    · refine s55_16 ?_
      refine s55_17 (st := []) ?_
      rw [if_pos (show y.1 6 = 0 ∧ t ≠ 65 by omega)] at h
      exact h _ hC yF.rf
end CV
