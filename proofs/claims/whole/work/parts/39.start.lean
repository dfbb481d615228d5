/-! 39.start: Session, TradeLink, the reference: made; the law up to its loop. -/
section CX
variable {S : Nat × (Nat → Int32)} {μ : xM} {n a : Nat} {Q : xQ}
theorem c54 (h8 : ∀ i, i < 12 → μ 8 i = defaultValue (xt4 i)) (h : ∀ ν, xg ν 8 100 → (∀ b i, b < 8 → ν b i = μ b i) → Q (.inl none) ν 100) : x_V S 54 0 [some (.ref 8)] [] μ 9 Q := by
  refine s54_0 rfl ?_
  refine s54_1 (by simp) ?_
  refine s54_4 rfl ?_
  refine s54_5 rfl (by decide) ?_
  refine s54_8 rfl ?_
  refine s54_9 (by simp) ?_
  refine c37 (fun i hi => z_nw_eq _ _ _ _) (fun ν1 hg1 hb1 => ?_)
  refine ⟨_, rfl, ?_⟩
  refine s54_12 rfl ?_
  refine s54_15 rfl ?_
  refine s54_16 rfl (by decide) ?_
  refine s54_19 rfl ?_
  refine s54_20 (by simp) ?_
  refine c46 (fun i hi => z_nw_eq _ _ _ _) (fun ν2 hg2 hb2 => ?_)
  refine ⟨_, rfl, ?_⟩
  refine s54_23 rfl ?_
  refine s54_26 rfl ?_
  refine s54_27 rfl (by decide) ?_
  refine s54_30 rfl ?_
  refine s54_31 (by simp) ?_
  refine c42 ?_
  refine ⟨_, rfl, ?_⟩
  refine s54_34 rfl ?_
  refine s54_37 rfl ?_
  refine s54_38 ?_
  refine s54_39 rfl ?_
  refine s54_42 rfl ?_
  refine s54_43 ?_
  refine s54_44 rfl ?_
  refine s54_47 (st := []) ?_
  refine h _ (fun b q1 q2 i hi => ?_) (fun b i q => ?_)
  · by_cases c : b = 8
    · rw [c] at hi ⊢
      have hi2 : i < 12 := hi
      match i, hi2 with
      | 0, _ => rw [z_up_i (by omega), z_up_i (by omega), z_up_i (by omega), z_up_ne (by omega), z_nw_ne (by omega), z_nw_ne (by omega), z_up_i (by omega), hb2 _ _ (by omega), z_nw_ne (by omega), z_up_eq]; rfl
      | 1, _ => rw [z_up_i (by omega), z_up_i (by omega), z_up_i (by omega), z_up_ne (by omega), z_nw_ne (by omega), z_nw_ne (by omega), z_up_eq]; rfl
      | 2, _ => rw [z_up_i (by omega), z_up_i (by omega), z_up_eq]; rfl
      | 3, _ => rw [z_up_i (by omega), z_up_eq]; rfl
      | 4, _ => rw [z_up_eq]; rfl
      | 5, _ => rw [z_up_i (by omega), z_up_i (by omega), z_up_i (by omega), z_up_ne (by omega), z_nw_ne (by omega), z_nw_ne (by omega), z_up_i (by omega), hb2 _ _ (by omega), z_nw_ne (by omega), z_up_i (by omega), hb1 _ _ (by omega), z_nw_ne (by omega)]; rw [h8 5 (by omega)]; rfl
      | 6, _ => rw [z_up_i (by omega), z_up_i (by omega), z_up_i (by omega), z_up_ne (by omega), z_nw_ne (by omega), z_nw_ne (by omega), z_up_i (by omega), hb2 _ _ (by omega), z_nw_ne (by omega), z_up_i (by omega), hb1 _ _ (by omega), z_nw_ne (by omega)]; rw [h8 6 (by omega)]; rfl
      | 7, _ => rw [z_up_i (by omega), z_up_i (by omega), z_up_i (by omega), z_up_ne (by omega), z_nw_ne (by omega), z_nw_ne (by omega), z_up_i (by omega), hb2 _ _ (by omega), z_nw_ne (by omega), z_up_i (by omega), hb1 _ _ (by omega), z_nw_ne (by omega)]; rw [h8 7 (by omega)]; rfl
      | 8, _ => rw [z_up_i (by omega), z_up_i (by omega), z_up_i (by omega), z_up_ne (by omega), z_nw_ne (by omega), z_nw_ne (by omega), z_up_i (by omega), hb2 _ _ (by omega), z_nw_ne (by omega), z_up_i (by omega), hb1 _ _ (by omega), z_nw_ne (by omega)]; rw [h8 8 (by omega)]; rfl
      | 9, _ => rw [z_up_i (by omega), z_up_i (by omega), z_up_i (by omega), z_up_ne (by omega), z_nw_ne (by omega), z_nw_ne (by omega), z_up_i (by omega), hb2 _ _ (by omega), z_nw_ne (by omega), z_up_i (by omega), hb1 _ _ (by omega), z_nw_ne (by omega)]; rw [h8 9 (by omega)]; rfl
      | 10, _ => rw [z_up_i (by omega), z_up_i (by omega), z_up_i (by omega), z_up_ne (by omega), z_nw_ne (by omega), z_nw_ne (by omega), z_up_i (by omega), hb2 _ _ (by omega), z_nw_ne (by omega), z_up_i (by omega), hb1 _ _ (by omega), z_nw_ne (by omega)]; rw [h8 10 (by omega)]; rfl
      | 11, _ => rw [z_up_i (by omega), z_up_i (by omega), z_up_i (by omega), z_up_ne (by omega), z_nw_ne (by omega), z_nw_ne (by omega), z_up_i (by omega), hb2 _ _ (by omega), z_nw_ne (by omega), z_up_i (by omega), hb1 _ _ (by omega), z_nw_ne (by omega)]; rw [h8 11 (by omega)]; rfl
    by_cases c : b = 98
    · rw [c] at hi ⊢
      have hi2 : i < 2 := hi
      match i, hi2 with
      | 0, _ => rw [z_up_ne (by omega), z_up_ne (by omega), z_up_ne (by omega), z_up_eq]; rfl
      | 1, _ => rw [z_up_ne (by omega), z_up_ne (by omega), z_up_ne (by omega), z_up_i (by omega), z_nw_ne (by omega), z_nw_eq]; rfl
    by_cases c : b = 99
    · rw [c, z_up_ne (by omega), z_up_ne (by omega), z_up_ne (by omega), z_up_ne (by omega), z_nw_eq, x_T_0 rfl (by omega) (by omega) (by omega)]
    by_cases c2 : 55 ≤ b
    · rw [z_up_ne (by omega), z_up_ne (by omega), z_up_ne (by omega), z_up_ne (by omega), z_nw_ne (by omega), z_nw_ne (by omega), z_up_ne (by omega)]
      exact hg2 b c2 (by omega) i hi
    · rw [z_up_ne (by omega), z_up_ne (by omega), z_up_ne (by omega), z_up_ne (by omega), z_nw_ne (by omega), z_nw_ne (by omega), z_up_ne (by omega), hb2 _ _ (by omega), z_nw_ne (by omega), z_up_ne (by omega)]
      exact hg1 b (by omega) (by omega) i hi
  · rw [z_up_ne (by omega), z_up_ne (by omega), z_up_ne (by omega), z_up_ne (by omega), z_nw_ne (by omega), z_nw_ne (by omega), z_up_ne (by omega), hb2 _ _ (by omega), z_nw_ne (by omega), z_up_ne (by omega), hb1 _ _ (by omega), z_nw_ne (by omega)]
theorem c69 (h2 : ∀ i, i < 3 → μ 2 i = defaultValue (xt0 i)) (h : ∀ ν, xg ν 2 100 → Q (.inl none) ν 100) : x_V S 69 0 [some (.ref 2)] [] μ 3 Q := by
  refine s69_0 rfl ?_
  refine s69_1 (by simp) ?_
  refine s69_4 rfl ?_
  refine s69_5 rfl (by decide) ?_
  refine s69_8 rfl ?_
  refine s69_9 (by simp) ?_
  refine c27 ?_
  refine ⟨_, rfl, ?_⟩
  refine s69_12 rfl ?_
  refine s69_15 rfl ?_
  refine s69_16 rfl (by decide) ?_
  refine s69_19 rfl ?_
  refine s69_20 (by simp) ?_
  refine c21 x_msg6 (by decide) ?_
  refine ⟨_, rfl, ?_⟩
  refine s69_23 rfl ?_
  refine s69_26 rfl ?_
  refine s69_27 rfl (by decide) ?_
  refine s69_30 rfl ?_
  refine s69_31 (by simp) ?_
  refine c54 (fun i hi => z_nw_eq _ _ _ _) (fun ν1 hg1 hb1 => ?_)
  refine ⟨_, rfl, ?_⟩
  refine s69_34 rfl ?_
  refine s69_37 (st := []) ?_
  refine h _ (fun b q1 q2 i hi => ?_)
  by_cases c : b = 2
  · rw [c] at hi ⊢
    have hi2 : i < 3 := hi
    match i, hi2 with
    | 0, _ => rw [z_up_i (by omega), hb1 _ _ (by omega), z_nw_ne (by omega), z_up_i (by omega), z_up_ne (by omega), z_nw_ne (by omega), z_nw_ne (by omega), z_up_eq]; rfl
    | 1, _ => rw [z_up_i (by omega), hb1 _ _ (by omega), z_nw_ne (by omega), z_up_eq]; rfl
    | 2, _ => rw [z_up_eq]; rfl
  by_cases c : b = 3
  · rw [c] at hi ⊢
    have hi2 : i < 2 := hi
    match i, hi2 with
    | 0, _ => rw [z_up_ne (by omega), hb1 _ _ (by omega), z_nw_ne (by omega), z_up_ne (by omega), z_up_ne (by omega), z_nw_ne (by omega), z_nw_ne (by omega), z_up_ne (by omega), z_up_eq]; rfl
    | 1, _ => rw [z_up_ne (by omega), hb1 _ _ (by omega), z_nw_ne (by omega), z_up_ne (by omega), z_up_ne (by omega), z_nw_ne (by omega), z_nw_ne (by omega), z_up_ne (by omega), z_up_i (by omega), z_up_ne (by omega), z_nw_ne (by omega), z_nw_ne (by omega), z_nw_eq]; rfl
  by_cases c : b = 4
  · rw [c] at hi ⊢
    have hi2 : i < 2 := hi
    match i, hi2 with
    | 0, _ => rw [z_up_ne (by omega), hb1 _ _ (by omega), z_nw_ne (by omega), z_up_ne (by omega), z_up_ne (by omega), z_nw_ne (by omega), z_nw_ne (by omega), z_up_ne (by omega), z_up_ne (by omega), z_up_eq]; rfl
    | 1, _ => rw [z_up_ne (by omega), hb1 _ _ (by omega), z_nw_ne (by omega), z_up_ne (by omega), z_up_ne (by omega), z_nw_ne (by omega), z_nw_ne (by omega), z_up_ne (by omega), z_up_ne (by omega), z_up_i (by omega), z_nw_ne (by omega), z_nw_eq]; rfl
  by_cases c : b = 5
  · rw [c, z_up_ne (by omega), hb1 _ _ (by omega), z_nw_ne (by omega), z_up_ne (by omega), z_up_ne (by omega), z_nw_ne (by omega), z_nw_ne (by omega), z_up_ne (by omega), z_up_ne (by omega), z_up_ne (by omega), z_nw_eq, x_T_0 rfl (by omega) (by omega) (by omega)]
  by_cases c : b = 6
  · rw [c] at hi ⊢
    have hi2 : i < 4 := hi
    match i, hi2 with
    | 0, _ => rw [z_up_ne (by omega), hb1 _ _ (by omega), z_nw_ne (by omega), z_up_ne (by omega), z_up_i (by omega), z_nw_ne (by omega), z_nw_eq]; rfl
    | 1, _ => rw [z_up_ne (by omega), hb1 _ _ (by omega), z_nw_ne (by omega), z_up_ne (by omega), z_up_i (by omega), z_nw_ne (by omega), z_nw_eq]; rfl
    | 2, _ => rw [z_up_ne (by omega), hb1 _ _ (by omega), z_nw_ne (by omega), z_up_ne (by omega), z_up_i (by omega), z_nw_ne (by omega), z_nw_eq]; rfl
    | 3, _ => rw [z_up_ne (by omega), hb1 _ _ (by omega), z_nw_ne (by omega), z_up_ne (by omega), z_up_eq]; rfl
  by_cases c : b = 7
  · rw [c, z_up_ne (by omega), hb1 _ _ (by omega), z_nw_ne (by omega), z_up_ne (by omega), z_up_ne (by omega), z_nw_eq, x_T_0 rfl (by omega) (by omega) (by omega)]
  rw [z_up_ne (by omega)]
  exact hg1 b (by omega) q2 i hi
theorem c83 (h100 : ∀ i, i < 39 → μ 100 i = defaultValue (xt9 i)) (h : ∀ ν, xg ν 100 115 → (∀ b i, b < 100 → ν b i = μ b i) → Q (.inl none) ν 115) : x_V S 83 0 [some (.ref 100)] [] μ 101 Q := by
  refine s83_0 rfl ?_
  refine s83_1 (by simp) ?_
  refine s83_4 rfl ?_
  refine s83_5 ?_
  refine s83_7 rfl (by decide) (by decide) (by decide) (by decide) ?_
  refine s83_9 rfl ?_
  refine s83_12 rfl ?_
  refine s83_13 ?_
  refine s83_15 rfl (by decide) (by decide) (by decide) (by decide) ?_
  refine s83_17 rfl ?_
  refine s83_20 rfl ?_
  refine s83_21 ?_
  refine s83_23 rfl (by decide) (by decide) (by decide) (by decide) ?_
  refine s83_25 rfl ?_
  refine s83_28 rfl ?_
  refine s83_29 ?_
  refine s83_31 rfl (by decide) (by decide) (by decide) (by decide) ?_
  refine s83_33 rfl ?_
  refine s83_36 rfl ?_
  refine s83_37 ?_
  refine s83_40 rfl (by decide) (by decide) (by decide) (by decide) ?_
  refine s83_42 rfl ?_
  refine s83_45 rfl ?_
  refine s83_46 ?_
  refine s83_48 rfl (by decide) (by decide) (by decide) (by decide) ?_
  refine s83_50 rfl ?_
  refine s83_53 rfl ?_
  refine s83_54 ?_
  refine s83_55 rfl ?_
  refine s83_58 rfl ?_
  refine s83_59 ?_
  refine s83_60 rfl ?_
  refine s83_63 rfl ?_
  refine s83_64 ?_
  refine s83_67 rfl (by decide) (by decide) (by decide) (by decide) ?_
  refine s83_69 rfl ?_
  refine s83_72 rfl ?_
  refine s83_73 ?_
  refine s83_76 rfl (by decide) (by decide) (by decide) (by decide) ?_
  refine s83_78 rfl ?_
  refine s83_81 rfl ?_
  refine s83_82 ?_
  refine s83_84 rfl (by decide) (by decide) (by decide) (by decide) ?_
  refine s83_86 rfl ?_
  refine s83_89 rfl ?_
  refine s83_90 ?_
  refine s83_92 rfl (by decide) (by decide) (by decide) (by decide) ?_
  refine s83_94 rfl ?_
  refine s83_97 rfl ?_
  refine s83_98 ?_
  refine s83_100 rfl (by decide) (by decide) (by decide) (by decide) ?_
  refine s83_102 rfl ?_
  refine s83_105 rfl ?_
  refine s83_106 ?_
  refine s83_108 rfl (by decide) (by decide) (by decide) (by decide) ?_
  refine s83_110 rfl ?_
  refine s83_113 rfl ?_
  refine s83_114 ?_
  refine s83_116 rfl (by decide) (by decide) (by decide) (by decide) ?_
  refine s83_118 rfl ?_
  refine s83_121 rfl ?_
  refine s83_122 ?_
  refine s83_125 rfl (by decide) (by decide) (by decide) (by decide) ?_
  refine s83_127 rfl ?_
  refine s83_130 (st := []) ?_
  refine h _ (fun b q1 q2 i hi => ?_) (fun b i q => ?_)
  rotate_left
  · rw [z_up_ne (by omega), z_nw_ne (by omega), z_up_ne (by omega), z_nw_ne (by omega), z_up_ne (by omega), z_nw_ne (by omega), z_up_ne (by omega), z_nw_ne (by omega), z_up_ne (by omega), z_nw_ne (by omega), z_up_ne (by omega), z_nw_ne (by omega), z_up_ne (by omega), z_nw_ne (by omega), z_up_ne (by omega), z_nw_ne (by omega), z_up_ne (by omega), z_up_ne (by omega), z_up_ne (by omega), z_nw_ne (by omega), z_up_ne (by omega), z_nw_ne (by omega), z_up_ne (by omega), z_nw_ne (by omega), z_up_ne (by omega), z_nw_ne (by omega), z_up_ne (by omega), z_nw_ne (by omega), z_up_ne (by omega), z_nw_ne (by omega)]
  by_cases c : b = 100
  · rw [c] at hi ⊢
    have hi2 : i < 39 := hi
    match i, hi2 with
    | 0, _ => rw [z_up_i (by omega), z_nw_ne (by omega), z_up_i (by omega), z_nw_ne (by omega), z_up_i (by omega), z_nw_ne (by omega), z_up_i (by omega), z_nw_ne (by omega), z_up_i (by omega), z_nw_ne (by omega), z_up_i (by omega), z_nw_ne (by omega), z_up_i (by omega), z_nw_ne (by omega), z_up_i (by omega), z_nw_ne (by omega), z_up_i (by omega), z_up_i (by omega), z_up_i (by omega), z_nw_ne (by omega), z_up_i (by omega), z_nw_ne (by omega), z_up_i (by omega), z_nw_ne (by omega), z_up_i (by omega), z_nw_ne (by omega), z_up_i (by omega), z_nw_ne (by omega), z_up_i (by omega), z_nw_ne (by omega)]; rw [h100 0 (by omega)]; rfl
    | 1, _ => rw [z_up_i (by omega), z_nw_ne (by omega), z_up_i (by omega), z_nw_ne (by omega), z_up_i (by omega), z_nw_ne (by omega), z_up_i (by omega), z_nw_ne (by omega), z_up_i (by omega), z_nw_ne (by omega), z_up_i (by omega), z_nw_ne (by omega), z_up_i (by omega), z_nw_ne (by omega), z_up_i (by omega), z_nw_ne (by omega), z_up_i (by omega), z_up_i (by omega), z_up_i (by omega), z_nw_ne (by omega), z_up_i (by omega), z_nw_ne (by omega), z_up_i (by omega), z_nw_ne (by omega), z_up_i (by omega), z_nw_ne (by omega), z_up_i (by omega), z_nw_ne (by omega), z_up_i (by omega), z_nw_ne (by omega)]; rw [h100 1 (by omega)]; rfl
    | 2, _ => rw [z_up_i (by omega), z_nw_ne (by omega), z_up_i (by omega), z_nw_ne (by omega), z_up_i (by omega), z_nw_ne (by omega), z_up_i (by omega), z_nw_ne (by omega), z_up_i (by omega), z_nw_ne (by omega), z_up_i (by omega), z_nw_ne (by omega), z_up_i (by omega), z_nw_ne (by omega), z_up_i (by omega), z_nw_ne (by omega), z_up_i (by omega), z_up_i (by omega), z_up_i (by omega), z_nw_ne (by omega), z_up_i (by omega), z_nw_ne (by omega), z_up_i (by omega), z_nw_ne (by omega), z_up_i (by omega), z_nw_ne (by omega), z_up_i (by omega), z_nw_ne (by omega), z_up_i (by omega), z_nw_ne (by omega)]; rw [h100 2 (by omega)]; rfl
    | 3, _ => rw [z_up_i (by omega), z_nw_ne (by omega), z_up_i (by omega), z_nw_ne (by omega), z_up_i (by omega), z_nw_ne (by omega), z_up_i (by omega), z_nw_ne (by omega), z_up_i (by omega), z_nw_ne (by omega), z_up_i (by omega), z_nw_ne (by omega), z_up_i (by omega), z_nw_ne (by omega), z_up_i (by omega), z_nw_ne (by omega), z_up_i (by omega), z_up_i (by omega), z_up_i (by omega), z_nw_ne (by omega), z_up_i (by omega), z_nw_ne (by omega), z_up_i (by omega), z_nw_ne (by omega), z_up_i (by omega), z_nw_ne (by omega), z_up_i (by omega), z_nw_ne (by omega), z_up_eq]; rfl
    | 4, _ => rw [z_up_i (by omega), z_nw_ne (by omega), z_up_i (by omega), z_nw_ne (by omega), z_up_i (by omega), z_nw_ne (by omega), z_up_i (by omega), z_nw_ne (by omega), z_up_i (by omega), z_nw_ne (by omega), z_up_i (by omega), z_nw_ne (by omega), z_up_i (by omega), z_nw_ne (by omega), z_up_i (by omega), z_nw_ne (by omega), z_up_i (by omega), z_up_i (by omega), z_up_i (by omega), z_nw_ne (by omega), z_up_i (by omega), z_nw_ne (by omega), z_up_i (by omega), z_nw_ne (by omega), z_up_i (by omega), z_nw_ne (by omega), z_up_i (by omega), z_nw_ne (by omega), z_up_i (by omega), z_nw_ne (by omega)]; rw [h100 4 (by omega)]; rfl
    | 5, _ => rw [z_up_i (by omega), z_nw_ne (by omega), z_up_i (by omega), z_nw_ne (by omega), z_up_i (by omega), z_nw_ne (by omega), z_up_i (by omega), z_nw_ne (by omega), z_up_i (by omega), z_nw_ne (by omega), z_up_i (by omega), z_nw_ne (by omega), z_up_i (by omega), z_nw_ne (by omega), z_up_i (by omega), z_nw_ne (by omega), z_up_i (by omega), z_up_i (by omega), z_up_i (by omega), z_nw_ne (by omega), z_up_i (by omega), z_nw_ne (by omega), z_up_i (by omega), z_nw_ne (by omega), z_up_i (by omega), z_nw_ne (by omega), z_up_eq]; rfl
    | 6, _ => rw [z_up_i (by omega), z_nw_ne (by omega), z_up_i (by omega), z_nw_ne (by omega), z_up_i (by omega), z_nw_ne (by omega), z_up_i (by omega), z_nw_ne (by omega), z_up_i (by omega), z_nw_ne (by omega), z_up_i (by omega), z_nw_ne (by omega), z_up_i (by omega), z_nw_ne (by omega), z_up_i (by omega), z_nw_ne (by omega), z_up_i (by omega), z_up_i (by omega), z_up_i (by omega), z_nw_ne (by omega), z_up_i (by omega), z_nw_ne (by omega), z_up_i (by omega), z_nw_ne (by omega), z_up_eq]; rfl
    | 7, _ => rw [z_up_i (by omega), z_nw_ne (by omega), z_up_i (by omega), z_nw_ne (by omega), z_up_i (by omega), z_nw_ne (by omega), z_up_i (by omega), z_nw_ne (by omega), z_up_i (by omega), z_nw_ne (by omega), z_up_i (by omega), z_nw_ne (by omega), z_up_i (by omega), z_nw_ne (by omega), z_up_i (by omega), z_nw_ne (by omega), z_up_i (by omega), z_up_i (by omega), z_up_i (by omega), z_nw_ne (by omega), z_up_i (by omega), z_nw_ne (by omega), z_up_eq]; rfl
    | 8, _ => rw [z_up_i (by omega), z_nw_ne (by omega), z_up_i (by omega), z_nw_ne (by omega), z_up_i (by omega), z_nw_ne (by omega), z_up_i (by omega), z_nw_ne (by omega), z_up_i (by omega), z_nw_ne (by omega), z_up_i (by omega), z_nw_ne (by omega), z_up_i (by omega), z_nw_ne (by omega), z_up_i (by omega), z_nw_ne (by omega), z_up_i (by omega), z_up_i (by omega), z_up_i (by omega), z_nw_ne (by omega), z_up_i (by omega), z_nw_ne (by omega), z_up_i (by omega), z_nw_ne (by omega), z_up_i (by omega), z_nw_ne (by omega), z_up_i (by omega), z_nw_ne (by omega), z_up_i (by omega), z_nw_ne (by omega)]; rw [h100 8 (by omega)]; rfl
    | 9, _ => rw [z_up_i (by omega), z_nw_ne (by omega), z_up_i (by omega), z_nw_ne (by omega), z_up_i (by omega), z_nw_ne (by omega), z_up_i (by omega), z_nw_ne (by omega), z_up_i (by omega), z_nw_ne (by omega), z_up_i (by omega), z_nw_ne (by omega), z_up_i (by omega), z_nw_ne (by omega), z_up_i (by omega), z_nw_ne (by omega), z_up_i (by omega), z_up_i (by omega), z_up_i (by omega), z_nw_ne (by omega), z_up_i (by omega), z_nw_ne (by omega), z_up_i (by omega), z_nw_ne (by omega), z_up_i (by omega), z_nw_ne (by omega), z_up_i (by omega), z_nw_ne (by omega), z_up_i (by omega), z_nw_ne (by omega)]; rw [h100 9 (by omega)]; rfl
    | 10, _ => rw [z_up_i (by omega), z_nw_ne (by omega), z_up_i (by omega), z_nw_ne (by omega), z_up_i (by omega), z_nw_ne (by omega), z_up_i (by omega), z_nw_ne (by omega), z_up_i (by omega), z_nw_ne (by omega), z_up_i (by omega), z_nw_ne (by omega), z_up_i (by omega), z_nw_ne (by omega), z_up_i (by omega), z_nw_ne (by omega), z_up_i (by omega), z_up_i (by omega), z_up_i (by omega), z_nw_ne (by omega), z_up_i (by omega), z_nw_ne (by omega), z_up_i (by omega), z_nw_ne (by omega), z_up_i (by omega), z_nw_ne (by omega), z_up_i (by omega), z_nw_ne (by omega), z_up_i (by omega), z_nw_ne (by omega)]; rw [h100 10 (by omega)]; rfl
    | 11, _ => rw [z_up_i (by omega), z_nw_ne (by omega), z_up_i (by omega), z_nw_ne (by omega), z_up_i (by omega), z_nw_ne (by omega), z_up_i (by omega), z_nw_ne (by omega), z_up_i (by omega), z_nw_ne (by omega), z_up_i (by omega), z_nw_ne (by omega), z_up_i (by omega), z_nw_ne (by omega), z_up_i (by omega), z_nw_ne (by omega), z_up_i (by omega), z_up_i (by omega), z_up_i (by omega), z_nw_ne (by omega), z_up_i (by omega), z_nw_ne (by omega), z_up_i (by omega), z_nw_ne (by omega), z_up_i (by omega), z_nw_ne (by omega), z_up_i (by omega), z_nw_ne (by omega), z_up_i (by omega), z_nw_ne (by omega)]; rw [h100 11 (by omega)]; rfl
    | 12, _ => rw [z_up_i (by omega), z_nw_ne (by omega), z_up_i (by omega), z_nw_ne (by omega), z_up_i (by omega), z_nw_ne (by omega), z_up_i (by omega), z_nw_ne (by omega), z_up_i (by omega), z_nw_ne (by omega), z_up_i (by omega), z_nw_ne (by omega), z_up_i (by omega), z_nw_ne (by omega), z_up_i (by omega), z_nw_ne (by omega), z_up_i (by omega), z_up_i (by omega), z_up_i (by omega), z_nw_ne (by omega), z_up_i (by omega), z_nw_ne (by omega), z_up_i (by omega), z_nw_ne (by omega), z_up_i (by omega), z_nw_ne (by omega), z_up_i (by omega), z_nw_ne (by omega), z_up_i (by omega), z_nw_ne (by omega)]; rw [h100 12 (by omega)]; rfl
    | 13, _ => rw [z_up_i (by omega), z_nw_ne (by omega), z_up_i (by omega), z_nw_ne (by omega), z_up_i (by omega), z_nw_ne (by omega), z_up_i (by omega), z_nw_ne (by omega), z_up_i (by omega), z_nw_ne (by omega), z_up_i (by omega), z_nw_ne (by omega), z_up_i (by omega), z_nw_ne (by omega), z_up_i (by omega), z_nw_ne (by omega), z_up_i (by omega), z_up_i (by omega), z_up_i (by omega), z_nw_ne (by omega), z_up_i (by omega), z_nw_ne (by omega), z_up_i (by omega), z_nw_ne (by omega), z_up_i (by omega), z_nw_ne (by omega), z_up_i (by omega), z_nw_ne (by omega), z_up_i (by omega), z_nw_ne (by omega)]; rw [h100 13 (by omega)]; rfl
    | 14, _ => rw [z_up_i (by omega), z_nw_ne (by omega), z_up_i (by omega), z_nw_ne (by omega), z_up_i (by omega), z_nw_ne (by omega), z_up_i (by omega), z_nw_ne (by omega), z_up_i (by omega), z_nw_ne (by omega), z_up_i (by omega), z_nw_ne (by omega), z_up_i (by omega), z_nw_ne (by omega), z_up_i (by omega), z_nw_ne (by omega), z_up_i (by omega), z_up_i (by omega), z_up_i (by omega), z_nw_ne (by omega), z_up_i (by omega), z_nw_ne (by omega), z_up_i (by omega), z_nw_ne (by omega), z_up_i (by omega), z_nw_ne (by omega), z_up_i (by omega), z_nw_ne (by omega), z_up_i (by omega), z_nw_ne (by omega)]; rw [h100 14 (by omega)]; rfl
    | 15, _ => rw [z_up_i (by omega), z_nw_ne (by omega), z_up_i (by omega), z_nw_ne (by omega), z_up_i (by omega), z_nw_ne (by omega), z_up_i (by omega), z_nw_ne (by omega), z_up_i (by omega), z_nw_ne (by omega), z_up_i (by omega), z_nw_ne (by omega), z_up_i (by omega), z_nw_ne (by omega), z_up_i (by omega), z_nw_ne (by omega), z_up_i (by omega), z_up_i (by omega), z_up_i (by omega), z_nw_ne (by omega), z_up_i (by omega), z_nw_ne (by omega), z_up_i (by omega), z_nw_ne (by omega), z_up_i (by omega), z_nw_ne (by omega), z_up_i (by omega), z_nw_ne (by omega), z_up_i (by omega), z_nw_ne (by omega)]; rw [h100 15 (by omega)]; rfl
    | 16, _ => rw [z_up_i (by omega), z_nw_ne (by omega), z_up_i (by omega), z_nw_ne (by omega), z_up_i (by omega), z_nw_ne (by omega), z_up_i (by omega), z_nw_ne (by omega), z_up_i (by omega), z_nw_ne (by omega), z_up_i (by omega), z_nw_ne (by omega), z_up_i (by omega), z_nw_ne (by omega), z_up_i (by omega), z_nw_ne (by omega), z_up_i (by omega), z_up_i (by omega), z_up_i (by omega), z_nw_ne (by omega), z_up_eq]; rfl
    | 17, _ => rw [z_up_i (by omega), z_nw_ne (by omega), z_up_i (by omega), z_nw_ne (by omega), z_up_i (by omega), z_nw_ne (by omega), z_up_i (by omega), z_nw_ne (by omega), z_up_i (by omega), z_nw_ne (by omega), z_up_i (by omega), z_nw_ne (by omega), z_up_i (by omega), z_nw_ne (by omega), z_up_i (by omega), z_nw_ne (by omega), z_up_i (by omega), z_up_i (by omega), z_up_eq]; rfl
    | 18, _ => rw [z_up_i (by omega), z_nw_ne (by omega), z_up_i (by omega), z_nw_ne (by omega), z_up_i (by omega), z_nw_ne (by omega), z_up_i (by omega), z_nw_ne (by omega), z_up_i (by omega), z_nw_ne (by omega), z_up_i (by omega), z_nw_ne (by omega), z_up_i (by omega), z_nw_ne (by omega), z_up_i (by omega), z_nw_ne (by omega), z_up_i (by omega), z_up_i (by omega), z_up_i (by omega), z_nw_ne (by omega), z_up_i (by omega), z_nw_ne (by omega), z_up_i (by omega), z_nw_ne (by omega), z_up_i (by omega), z_nw_ne (by omega), z_up_i (by omega), z_nw_ne (by omega), z_up_i (by omega), z_nw_ne (by omega)]; rw [h100 18 (by omega)]; rfl
    | 19, _ => rw [z_up_i (by omega), z_nw_ne (by omega), z_up_i (by omega), z_nw_ne (by omega), z_up_i (by omega), z_nw_ne (by omega), z_up_i (by omega), z_nw_ne (by omega), z_up_i (by omega), z_nw_ne (by omega), z_up_i (by omega), z_nw_ne (by omega), z_up_i (by omega), z_nw_ne (by omega), z_up_i (by omega), z_nw_ne (by omega), z_up_i (by omega), z_up_i (by omega), z_up_i (by omega), z_nw_ne (by omega), z_up_i (by omega), z_nw_ne (by omega), z_up_i (by omega), z_nw_ne (by omega), z_up_i (by omega), z_nw_ne (by omega), z_up_i (by omega), z_nw_ne (by omega), z_up_i (by omega), z_nw_ne (by omega)]; rw [h100 19 (by omega)]; rfl
    | 20, _ => rw [z_up_i (by omega), z_nw_ne (by omega), z_up_i (by omega), z_nw_ne (by omega), z_up_i (by omega), z_nw_ne (by omega), z_up_i (by omega), z_nw_ne (by omega), z_up_i (by omega), z_nw_ne (by omega), z_up_i (by omega), z_nw_ne (by omega), z_up_i (by omega), z_nw_ne (by omega), z_up_i (by omega), z_nw_ne (by omega), z_up_i (by omega), z_up_eq]; rfl
    | 21, _ => rw [z_up_i (by omega), z_nw_ne (by omega), z_up_i (by omega), z_nw_ne (by omega), z_up_i (by omega), z_nw_ne (by omega), z_up_i (by omega), z_nw_ne (by omega), z_up_i (by omega), z_nw_ne (by omega), z_up_i (by omega), z_nw_ne (by omega), z_up_i (by omega), z_nw_ne (by omega), z_up_i (by omega), z_nw_ne (by omega), z_up_eq]; rfl
    | 22, _ => rw [z_up_i (by omega), z_nw_ne (by omega), z_up_i (by omega), z_nw_ne (by omega), z_up_i (by omega), z_nw_ne (by omega), z_up_i (by omega), z_nw_ne (by omega), z_up_i (by omega), z_nw_ne (by omega), z_up_i (by omega), z_nw_ne (by omega), z_up_i (by omega), z_nw_ne (by omega), z_up_i (by omega), z_nw_ne (by omega), z_up_i (by omega), z_up_i (by omega), z_up_i (by omega), z_nw_ne (by omega), z_up_i (by omega), z_nw_ne (by omega), z_up_i (by omega), z_nw_ne (by omega), z_up_i (by omega), z_nw_ne (by omega), z_up_i (by omega), z_nw_ne (by omega), z_up_i (by omega), z_nw_ne (by omega)]; rw [h100 22 (by omega)]; rfl
    | 23, _ => rw [z_up_i (by omega), z_nw_ne (by omega), z_up_i (by omega), z_nw_ne (by omega), z_up_i (by omega), z_nw_ne (by omega), z_up_i (by omega), z_nw_ne (by omega), z_up_i (by omega), z_nw_ne (by omega), z_up_i (by omega), z_nw_ne (by omega), z_up_i (by omega), z_nw_ne (by omega), z_up_i (by omega), z_nw_ne (by omega), z_up_i (by omega), z_up_i (by omega), z_up_i (by omega), z_nw_ne (by omega), z_up_i (by omega), z_nw_ne (by omega), z_up_i (by omega), z_nw_ne (by omega), z_up_i (by omega), z_nw_ne (by omega), z_up_i (by omega), z_nw_ne (by omega), z_up_i (by omega), z_nw_ne (by omega)]; rw [h100 23 (by omega)]; rfl
    | 24, _ => rw [z_up_i (by omega), z_nw_ne (by omega), z_up_i (by omega), z_nw_ne (by omega), z_up_i (by omega), z_nw_ne (by omega), z_up_i (by omega), z_nw_ne (by omega), z_up_i (by omega), z_nw_ne (by omega), z_up_i (by omega), z_nw_ne (by omega), z_up_i (by omega), z_nw_ne (by omega), z_up_i (by omega), z_nw_ne (by omega), z_up_i (by omega), z_up_i (by omega), z_up_i (by omega), z_nw_ne (by omega), z_up_i (by omega), z_nw_ne (by omega), z_up_i (by omega), z_nw_ne (by omega), z_up_i (by omega), z_nw_ne (by omega), z_up_i (by omega), z_nw_ne (by omega), z_up_i (by omega), z_nw_ne (by omega)]; rw [h100 24 (by omega)]; rfl
    | 25, _ => rw [z_up_i (by omega), z_nw_ne (by omega), z_up_i (by omega), z_nw_ne (by omega), z_up_i (by omega), z_nw_ne (by omega), z_up_i (by omega), z_nw_ne (by omega), z_up_i (by omega), z_nw_ne (by omega), z_up_i (by omega), z_nw_ne (by omega), z_up_i (by omega), z_nw_ne (by omega), z_up_i (by omega), z_nw_ne (by omega), z_up_i (by omega), z_up_i (by omega), z_up_i (by omega), z_nw_ne (by omega), z_up_i (by omega), z_nw_ne (by omega), z_up_i (by omega), z_nw_ne (by omega), z_up_i (by omega), z_nw_ne (by omega), z_up_i (by omega), z_nw_ne (by omega), z_up_i (by omega), z_nw_ne (by omega)]; rw [h100 25 (by omega)]; rfl
    | 26, _ => rw [z_up_i (by omega), z_nw_ne (by omega), z_up_i (by omega), z_nw_ne (by omega), z_up_i (by omega), z_nw_ne (by omega), z_up_i (by omega), z_nw_ne (by omega), z_up_i (by omega), z_nw_ne (by omega), z_up_i (by omega), z_nw_ne (by omega), z_up_i (by omega), z_nw_ne (by omega), z_up_i (by omega), z_nw_ne (by omega), z_up_i (by omega), z_up_i (by omega), z_up_i (by omega), z_nw_ne (by omega), z_up_i (by omega), z_nw_ne (by omega), z_up_i (by omega), z_nw_ne (by omega), z_up_i (by omega), z_nw_ne (by omega), z_up_i (by omega), z_nw_ne (by omega), z_up_i (by omega), z_nw_ne (by omega)]; rw [h100 26 (by omega)]; rfl
    | 27, _ => rw [z_up_i (by omega), z_nw_ne (by omega), z_up_i (by omega), z_nw_ne (by omega), z_up_i (by omega), z_nw_ne (by omega), z_up_i (by omega), z_nw_ne (by omega), z_up_i (by omega), z_nw_ne (by omega), z_up_i (by omega), z_nw_ne (by omega), z_up_i (by omega), z_nw_ne (by omega), z_up_eq]; rfl
    | 28, _ => rw [z_up_i (by omega), z_nw_ne (by omega), z_up_i (by omega), z_nw_ne (by omega), z_up_i (by omega), z_nw_ne (by omega), z_up_i (by omega), z_nw_ne (by omega), z_up_i (by omega), z_nw_ne (by omega), z_up_i (by omega), z_nw_ne (by omega), z_up_eq]; rfl
    | 29, _ => rw [z_up_i (by omega), z_nw_ne (by omega), z_up_i (by omega), z_nw_ne (by omega), z_up_i (by omega), z_nw_ne (by omega), z_up_i (by omega), z_nw_ne (by omega), z_up_i (by omega), z_nw_ne (by omega), z_up_i (by omega), z_nw_ne (by omega), z_up_i (by omega), z_nw_ne (by omega), z_up_i (by omega), z_nw_ne (by omega), z_up_i (by omega), z_up_i (by omega), z_up_i (by omega), z_nw_ne (by omega), z_up_i (by omega), z_nw_ne (by omega), z_up_i (by omega), z_nw_ne (by omega), z_up_i (by omega), z_nw_ne (by omega), z_up_i (by omega), z_nw_ne (by omega), z_up_i (by omega), z_nw_ne (by omega)]; rw [h100 29 (by omega)]; rfl
    | 30, _ => rw [z_up_i (by omega), z_nw_ne (by omega), z_up_i (by omega), z_nw_ne (by omega), z_up_i (by omega), z_nw_ne (by omega), z_up_i (by omega), z_nw_ne (by omega), z_up_i (by omega), z_nw_ne (by omega), z_up_eq]; rfl
    | 31, _ => rw [z_up_i (by omega), z_nw_ne (by omega), z_up_i (by omega), z_nw_ne (by omega), z_up_i (by omega), z_nw_ne (by omega), z_up_i (by omega), z_nw_ne (by omega), z_up_eq]; rfl
    | 32, _ => rw [z_up_i (by omega), z_nw_ne (by omega), z_up_i (by omega), z_nw_ne (by omega), z_up_i (by omega), z_nw_ne (by omega), z_up_eq]; rfl
    | 33, _ => rw [z_up_i (by omega), z_nw_ne (by omega), z_up_i (by omega), z_nw_ne (by omega), z_up_eq]; rfl
    | 34, _ => rw [z_up_i (by omega), z_nw_ne (by omega), z_up_eq]; rfl
    | 35, _ => rw [z_up_i (by omega), z_nw_ne (by omega), z_up_i (by omega), z_nw_ne (by omega), z_up_i (by omega), z_nw_ne (by omega), z_up_i (by omega), z_nw_ne (by omega), z_up_i (by omega), z_nw_ne (by omega), z_up_i (by omega), z_nw_ne (by omega), z_up_i (by omega), z_nw_ne (by omega), z_up_i (by omega), z_nw_ne (by omega), z_up_i (by omega), z_up_i (by omega), z_up_i (by omega), z_nw_ne (by omega), z_up_i (by omega), z_nw_ne (by omega), z_up_i (by omega), z_nw_ne (by omega), z_up_i (by omega), z_nw_ne (by omega), z_up_i (by omega), z_nw_ne (by omega), z_up_i (by omega), z_nw_ne (by omega)]; rw [h100 35 (by omega)]; rfl
    | 36, _ => rw [z_up_i (by omega), z_nw_ne (by omega), z_up_i (by omega), z_nw_ne (by omega), z_up_i (by omega), z_nw_ne (by omega), z_up_i (by omega), z_nw_ne (by omega), z_up_i (by omega), z_nw_ne (by omega), z_up_i (by omega), z_nw_ne (by omega), z_up_i (by omega), z_nw_ne (by omega), z_up_i (by omega), z_nw_ne (by omega), z_up_i (by omega), z_up_i (by omega), z_up_i (by omega), z_nw_ne (by omega), z_up_i (by omega), z_nw_ne (by omega), z_up_i (by omega), z_nw_ne (by omega), z_up_i (by omega), z_nw_ne (by omega), z_up_i (by omega), z_nw_ne (by omega), z_up_i (by omega), z_nw_ne (by omega)]; rw [h100 36 (by omega)]; rfl
    | 37, _ => rw [z_up_eq]; rfl
    | 38, _ => rw [z_up_i (by omega), z_nw_ne (by omega), z_up_i (by omega), z_nw_ne (by omega), z_up_i (by omega), z_nw_ne (by omega), z_up_i (by omega), z_nw_ne (by omega), z_up_i (by omega), z_nw_ne (by omega), z_up_i (by omega), z_nw_ne (by omega), z_up_i (by omega), z_nw_ne (by omega), z_up_i (by omega), z_nw_ne (by omega), z_up_i (by omega), z_up_i (by omega), z_up_i (by omega), z_nw_ne (by omega), z_up_i (by omega), z_nw_ne (by omega), z_up_i (by omega), z_nw_ne (by omega), z_up_i (by omega), z_nw_ne (by omega), z_up_i (by omega), z_nw_ne (by omega), z_up_i (by omega), z_nw_ne (by omega)]; rw [h100 38 (by omega)]; rfl
    | j + 39, q => exfalso; omega
  by_cases c : b = 101
  · rw [c, z_up_ne (by omega), z_nw_ne (by omega), z_up_ne (by omega), z_nw_ne (by omega), z_up_ne (by omega), z_nw_ne (by omega), z_up_ne (by omega), z_nw_ne (by omega), z_up_ne (by omega), z_nw_ne (by omega), z_up_ne (by omega), z_nw_ne (by omega), z_up_ne (by omega), z_nw_ne (by omega), z_up_ne (by omega), z_nw_ne (by omega), z_up_ne (by omega), z_up_ne (by omega), z_up_ne (by omega), z_nw_ne (by omega), z_up_ne (by omega), z_nw_ne (by omega), z_up_ne (by omega), z_nw_ne (by omega), z_up_ne (by omega), z_nw_ne (by omega), z_up_ne (by omega), z_nw_ne (by omega), z_up_ne (by omega), z_nw_eq, x_T_0 rfl (by omega) (by omega) (by omega)]; rfl
  by_cases c : b = 102
  · rw [c, z_up_ne (by omega), z_nw_ne (by omega), z_up_ne (by omega), z_nw_ne (by omega), z_up_ne (by omega), z_nw_ne (by omega), z_up_ne (by omega), z_nw_ne (by omega), z_up_ne (by omega), z_nw_ne (by omega), z_up_ne (by omega), z_nw_ne (by omega), z_up_ne (by omega), z_nw_ne (by omega), z_up_ne (by omega), z_nw_ne (by omega), z_up_ne (by omega), z_up_ne (by omega), z_up_ne (by omega), z_nw_ne (by omega), z_up_ne (by omega), z_nw_ne (by omega), z_up_ne (by omega), z_nw_ne (by omega), z_up_ne (by omega), z_nw_ne (by omega), z_up_ne (by omega), z_nw_eq, x_T_0 rfl (by omega) (by omega) (by omega)]; rfl
  by_cases c : b = 103
  · rw [c, z_up_ne (by omega), z_nw_ne (by omega), z_up_ne (by omega), z_nw_ne (by omega), z_up_ne (by omega), z_nw_ne (by omega), z_up_ne (by omega), z_nw_ne (by omega), z_up_ne (by omega), z_nw_ne (by omega), z_up_ne (by omega), z_nw_ne (by omega), z_up_ne (by omega), z_nw_ne (by omega), z_up_ne (by omega), z_nw_ne (by omega), z_up_ne (by omega), z_up_ne (by omega), z_up_ne (by omega), z_nw_ne (by omega), z_up_ne (by omega), z_nw_ne (by omega), z_up_ne (by omega), z_nw_ne (by omega), z_up_ne (by omega), z_nw_eq, x_T_0 rfl (by omega) (by omega) (by omega)]; rfl
  by_cases c : b = 104
  · rw [c, z_up_ne (by omega), z_nw_ne (by omega), z_up_ne (by omega), z_nw_ne (by omega), z_up_ne (by omega), z_nw_ne (by omega), z_up_ne (by omega), z_nw_ne (by omega), z_up_ne (by omega), z_nw_ne (by omega), z_up_ne (by omega), z_nw_ne (by omega), z_up_ne (by omega), z_nw_ne (by omega), z_up_ne (by omega), z_nw_ne (by omega), z_up_ne (by omega), z_up_ne (by omega), z_up_ne (by omega), z_nw_ne (by omega), z_up_ne (by omega), z_nw_ne (by omega), z_up_ne (by omega), z_nw_eq, x_T_0 rfl (by omega) (by omega) (by omega)]; rfl
  by_cases c : b = 105
  · rw [c, z_up_ne (by omega), z_nw_ne (by omega), z_up_ne (by omega), z_nw_ne (by omega), z_up_ne (by omega), z_nw_ne (by omega), z_up_ne (by omega), z_nw_ne (by omega), z_up_ne (by omega), z_nw_ne (by omega), z_up_ne (by omega), z_nw_ne (by omega), z_up_ne (by omega), z_nw_ne (by omega), z_up_ne (by omega), z_nw_ne (by omega), z_up_ne (by omega), z_up_ne (by omega), z_up_ne (by omega), z_nw_ne (by omega), z_up_ne (by omega), z_nw_eq, x_T_0 rfl (by omega) (by omega) (by omega)]; rfl
  by_cases c : b = 106
  · rw [c, z_up_ne (by omega), z_nw_ne (by omega), z_up_ne (by omega), z_nw_ne (by omega), z_up_ne (by omega), z_nw_ne (by omega), z_up_ne (by omega), z_nw_ne (by omega), z_up_ne (by omega), z_nw_ne (by omega), z_up_ne (by omega), z_nw_ne (by omega), z_up_ne (by omega), z_nw_ne (by omega), z_up_ne (by omega), z_nw_ne (by omega), z_up_ne (by omega), z_up_ne (by omega), z_up_ne (by omega), z_nw_eq, x_T_0 rfl (by omega) (by omega) (by omega)]; rfl
  by_cases c : b = 107
  · rw [c, z_up_ne (by omega), z_nw_ne (by omega), z_up_ne (by omega), z_nw_ne (by omega), z_up_ne (by omega), z_nw_ne (by omega), z_up_ne (by omega), z_nw_ne (by omega), z_up_ne (by omega), z_nw_ne (by omega), z_up_ne (by omega), z_nw_ne (by omega), z_up_ne (by omega), z_nw_ne (by omega), z_up_ne (by omega), z_nw_eq, x_T_0 rfl (by omega) (by omega) (by omega)]; rfl
  by_cases c : b = 108
  · rw [c, z_up_ne (by omega), z_nw_ne (by omega), z_up_ne (by omega), z_nw_ne (by omega), z_up_ne (by omega), z_nw_ne (by omega), z_up_ne (by omega), z_nw_ne (by omega), z_up_ne (by omega), z_nw_ne (by omega), z_up_ne (by omega), z_nw_ne (by omega), z_up_ne (by omega), z_nw_eq, x_T_0 rfl (by omega) (by omega) (by omega)]; rfl
  by_cases c : b = 109
  · rw [c, z_up_ne (by omega), z_nw_ne (by omega), z_up_ne (by omega), z_nw_ne (by omega), z_up_ne (by omega), z_nw_ne (by omega), z_up_ne (by omega), z_nw_ne (by omega), z_up_ne (by omega), z_nw_ne (by omega), z_up_ne (by omega), z_nw_eq, x_T_0 rfl (by omega) (by omega) (by omega)]; rfl
  by_cases c : b = 110
  · rw [c, z_up_ne (by omega), z_nw_ne (by omega), z_up_ne (by omega), z_nw_ne (by omega), z_up_ne (by omega), z_nw_ne (by omega), z_up_ne (by omega), z_nw_ne (by omega), z_up_ne (by omega), z_nw_eq, x_T_0 rfl (by omega) (by omega) (by omega)]; rfl
  by_cases c : b = 111
  · rw [c, z_up_ne (by omega), z_nw_ne (by omega), z_up_ne (by omega), z_nw_ne (by omega), z_up_ne (by omega), z_nw_ne (by omega), z_up_ne (by omega), z_nw_eq, x_T_0 rfl (by omega) (by omega) (by omega)]; rfl
  by_cases c : b = 112
  · rw [c, z_up_ne (by omega), z_nw_ne (by omega), z_up_ne (by omega), z_nw_ne (by omega), z_up_ne (by omega), z_nw_eq, x_T_0 rfl (by omega) (by omega) (by omega)]; rfl
  by_cases c : b = 113
  · rw [c, z_up_ne (by omega), z_nw_ne (by omega), z_up_ne (by omega), z_nw_eq, x_T_0 rfl (by omega) (by omega) (by omega)]; rfl
  by_cases c : b = 114
  · rw [c, z_up_ne (by omega), z_nw_eq, x_T_0 rfl (by omega) (by omega) (by omega)]; rfl
  exfalso; omega
theorem x_pt_lt {a i : Nat} {x : Nat} (e : x_pt a i = some (.ref x)) : x < 116 := by
  unfold x_pt at e
  split at e
  · split at e
    · rename_i q
      have z : (13 + 2 * i : Nat) = x := by injection e with e; injection e
      omega
    · cases e
  · split at e
    · split at e
      · have z : (58 + i : Nat) = x := by injection e with e; injection e
        omega
      · cases e
    · split at e
      · split at e
        · have z : (a + 1 : Nat) = x := by injection e with e; injection e
          omega
        · cases e
      · split at e <;> first | (cases e; decide) | cases e
/-- the law up to its loop -/
theorem l138 (h : x_V S 138 23 [some (.ref 1), some (.ref 2), some (.ref 100), some (.ref 115), some (.int (I 0)), none, none] [] (x_vm x_g0) 116 Q) : x_V S 138 0 (x_en 7 [.ref 1]) [] (fun _ _ => .null) 2 Q := by
  refine s138_0 rfl (by decide) ?_
  refine s138_3 rfl ?_
  refine s138_4 (by simp) ?_
  refine c69 (fun i hi => z_nw_eq _ _ _ _) (fun ν1 hg1 => ?_)
  refine ⟨_, rfl, ?_⟩
  refine s138_7 ?_
  refine s138_8 rfl (by decide) ?_
  refine s138_11 rfl ?_
  refine s138_12 (by simp) ?_
  refine c83 (fun i hi => z_nw_eq _ _ _ _) (fun ν2 hg2 hb2 => ?_)
  refine ⟨_, rfl, ?_⟩
  refine s138_15 ?_
  refine s138_16 ?_
  refine s138_17 rfl (by decide) (by decide) (by decide) (by decide) ?_
  refine s138_19 ?_
  refine s138_20 ?_
  refine s138_21 ?_
  refine x_V_mem (μ' := x_vm x_g0) (fun b q1 q2 i hi => ?_) (fun b i => ?_) h
  · by_cases c : b = 115
    · rw [c] at hi ⊢
      rw [z_nw_eq]
      have hi2 : i < 1 := hi
      match i, hi2 with
      | 0, _ => rfl
    · rw [z_nw_ne c]
      by_cases c2 : 100 ≤ b
      · exact hg2 b c2 (by omega) i hi
      · rw [hb2 b i (by omega), z_nw_ne (by omega)]
        exact hg1 b q1 (by omega) i hi
  · intro x hx
    unfold x_vm at hx
    split at hx
    · rename_i v e
      rw [hx] at e
      exact x_pt_lt e
    · split at hx <;> cases hx
end CX
