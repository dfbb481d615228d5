/-! 35.scan: Inbox.scan whole. -/
section CJ
variable {S : Nat × (Nat → Int32)} {μ : xM} {g : Nat → Nat → Int} {n v : Nat} {Q : xQ} {f : Int → Int} {p : Int}
def zsmb (f : Int → Int) (m : Nat) : Int := x_sm (fun j => f (j : Int)) m % 256
def zsum (f : Int → Int) (sz p : Int) : Bool :=
  match zop f 10 p with
  | none => false
  | some q => decide ((znum f q).1 = zsmb f (if p ≤ sz then p else sz).toNat ∧ (znum f q).2 - q = 4 ∧ (znum f q).2 = sz)
theorem c31 {sz : Int} (hS : zS g f) (hg : ∀ j, j < 120 → 0 ≤ g 5 j ∧ g 5 j ≤ 127) (hsz : g 4 1 = sz) (hp : g 3 1 = p) (h0 : 0 ≤ p ∧ p ≤ 900) (h : ∀ q g', zA g g' q → Q (.inl (some (.int (I (if zsum f sz p = true then 1 else 0))))) (x_vm g') n) : x_V S 31 0 [some (.ref 3), none, none] [] (x_vm g) n Q := by
  have hs := hS.2.1
  have hm : (((if p ≤ sz then p else sz).toNat : Nat) : Int) = if p ≤ g 4 1 then (if 0 ≤ p then p else 0) else g 4 1 := by
    rw [hsz]
    split
    · rw [if_pos h0.1]; omega
    · omega
  have hsum : x_sm (g 5) (if p ≤ sz then p else sz).toNat % 256 = zsmb f (if p ≤ sz then p else sz).toNat := by
    unfold zsmb
    rw [x_sm_congr]
    intro j hj
    have e := hS.1 j
    unfold x_atv at e
    have hj2 : (j : Int) < g 4 1 := by
      split at hj <;> omega
    rw [if_pos ⟨by omega, hj2⟩, Int.toNat_natCast] at e
    exact e
  have hsb : 0 ≤ zsmb f (if p ≤ sz then p else sz).toNat ∧ zsmb f (if p ≤ sz then p else sz).toNat ≤ 255 := by
    unfold zsmb
    omega
  unfold zsum at h
  refine s31_0 rfl ?_
  refine s31_1 rfl rfl ?_
  refine s31_4 rfl ?_
  refine s31_5 rfl rfl (by decide) ?_
  rw [hp]
  refine s31_8 rfl (by simp) ?_
  refine c16 x_row4 ⟨by omega, by omega⟩ hs hg hm ?_
  refine ⟨_, rfl, ?_⟩
  rw [hsum]
  generalize zsmb f (if p ≤ sz then p else sz).toNat = s at h hsb
  refine s31_11 ?_
  refine s31_12 rfl ?_
  refine s31_13 ?_
  refine s31_15 rfl (by simp) ?_
  refine c32 hS hp ⟨by omega, by omega⟩ ⟨by omega, by omega⟩ (fun q g1 e hA => ?_) (fun e => ?_)
  · refine ⟨_, rfl, ?_⟩
    rw [e] at h
    simp only [decide_eq_true_eq] at h
    have hq := zop_b e
    have hz := znum_b (f := f) q (by omega)
    have hq1 := hA.1
    have hsz1 : g1 4 1 = sz := by rw [hA.2 _ _ (by omega)]; exact hsz
    refine s31_18 ⟨by omega, by omega⟩ (fun h18 => ?_) (fun h18 => ?_)
    · refine s31_23 rfl ?_
      refine s31_24 (by first | assumption | rfl) (by first | assumption | (exact hpo _) | rfl | decide) (by first | assumption | decide | omega) ?_
      rw [hq1]
      refine s31_27 ?_
      refine s31_28 rfl ?_
      refine s31_29 (by first | assumption | rfl) (by simp) ?_
      refine c33 (hA.s hS) hq1 ⟨by omega, by omega⟩ (fun g2 hA2 => ?_)
      refine ⟨_, rfl, ?_⟩
      have hq2 := hA2.1
      have hsz2 : g2 4 1 = sz := by rw [hA2.2 _ _ (by omega)]; exact hsz1
      refine s31_32 rfl ?_
      refine s31_33 ⟨by omega, by omega⟩ ⟨by omega, by omega⟩ (fun h33 => ?_) (fun h33 => ?_)
      · refine s31_64 ?_
        refine s31_65 (st := []) (by omega) ?_
        first
          | (rw [if_pos ⟨by omega, by omega, by omega⟩] at h; exact h _ _ (hA.tr hA2))
          | (rw [if_neg (fun z => by omega)] at h; exact h _ _ (hA.tr hA2))
      · refine s31_36 rfl ?_
        refine s31_37 (by first | assumption | rfl) (by first | assumption | (exact hpo _) | rfl | decide) (by first | assumption | decide | omega) ?_
        refine s31_40 rfl ?_
        refine s31_41 ?_
        refine s31_42 ?_
        refine s31_43 ⟨by omega, by omega⟩ ⟨by omega, by omega⟩ (fun h43 => ?_) (fun h43 => ?_)
        · refine s31_64 ?_
          refine s31_65 (st := []) (by omega) ?_
          first
            | (rw [if_pos ⟨by omega, by omega, by omega⟩] at h; exact h _ _ (hA.tr hA2))
            | (rw [if_neg (fun z => by omega)] at h; exact h _ _ (hA.tr hA2))
        · refine s31_46 rfl ?_
          refine s31_47 (by first | assumption | rfl) (by first | assumption | (exact hpo _) | rfl | decide) (by first | assumption | decide | omega) ?_
          refine s31_50 rfl ?_
          refine s31_51 (by first | assumption | rfl) (by first | assumption | (exact hpo _) | rfl | decide) ?_
          refine s31_54 (by first | assumption | rfl) (by first | assumption | (exact hpo _) | rfl | decide) (by first | assumption | decide | omega) ?_
          refine s31_57 ⟨by omega, by omega⟩ ⟨by omega, by omega⟩ (fun h57 => ?_) (fun h57 => ?_)
          · refine s31_64 ?_
            refine s31_65 (st := []) (by omega) ?_
            first
              | (rw [if_pos ⟨by omega, by omega, by omega⟩] at h; exact h _ _ (hA.tr hA2))
              | (rw [if_neg (fun z => by omega)] at h; exact h _ _ (hA.tr hA2))
          · refine s31_60 ?_
            refine s31_61 ?_
            refine s31_65 (st := []) (by omega) ?_
            first
              | (rw [if_pos ⟨by omega, by omega, by omega⟩] at h; exact h _ _ (hA.tr hA2))
              | (rw [if_neg (fun z => by omega)] at h; exact h _ _ (hA.tr hA2))
    · refine s31_21 ?_
      refine s31_22 (st := []) (by omega) ?_
      exfalso; omega
  · refine ⟨_, rfl, ?_⟩
    rw [e] at h
    simp only [Bool.false_eq_true, if_false] at h
    refine s31_18 ⟨by omega, by omega⟩ (fun h18 => ?_) (fun h18 => ?_)
    · exact absurd rfl h18
    · refine s31_21 ?_
      refine s31_22 (st := []) (by omega) ?_
      exact h _ g ⟨rfl, fun _ _ _ => rfl⟩
abbrev zpeer (t : Int) : Prop := t = 48 ∨ t = 49 ∨ t = 50 ∨ t = 52 ∨ t = 53 ∨ t = 65 ∨ t = 68 ∨ t = 70 ∨ t = 71
def zhead (f : Int → Int) (p : Int) : Option (Int × Int × Int × Int) :=
  match zop f 35 p with
  | none => none
  | some q => if zpeer (zchr f q) then
      match zop f 34 (q + 2) with
      | none => none
      | some r =>
        match zop f 43 (znum f r).2 with
        | none => if (znum f r).1 = -1 then none else some (zchr f q, (znum f r).1, 0, (znum f r).2)
        | some w => if (znum f r).1 = -1 ∨ zchr f w ≠ 89 then none else some (zchr f q, (znum f r).1, 1, w + 2)
    else none
/-- what a scan leaves alone -/
def zR (g g' : Nat → Nat → Int) : Prop := ∀ a i, a ≠ 3 → a ≠ 6 → a ≠ 7 → g' a i = g a i
theorem zR.rf : zR g g := fun _ _ _ _ _ => rfl
theorem zR.tr {g1 g2 : Nat → Nat → Int} (h1 : zR g g1) (h2 : zR g1 g2) : zR g g2 := fun a i q1 q2 q3 => (h2 a i q1 q2 q3).trans (h1 a i q1 q2 q3)
theorem zA.r {g' : Nat → Nat → Int} {q : Int} (h : zA g g' q) : zR g g' := fun a i q1 _ _ => h.2 a i q1
theorem zR.s {g' : Nat → Nat → Int} (h : zR g g') (hS : zS g f) : zS g' f := hS.eq (h _ _ (by omega) (by omega) (by omega)) (fun i => h _ _ (by omega) (by omega) (by omega))
theorem zR.bg {t m d : Int} : zR g (x_bg 6 t m d g) := fun a i _ h _ => x_bg_ne h
theorem c29 (hS : zS g f) (hp : g 3 1 = p) (h0 : 0 ≤ p ∧ p ≤ 800) (hN : zhead f p = none → ∀ g', zR g g' → (∀ i, g' 7 i = g 7 i) → Q (.inl (some (.int (I 0)))) (x_vm g') n) (hY : ∀ t m d q g', zhead f p = some (t, m, d, q) → g' 3 1 = q → g' 6 0 = t → g' 6 1 = m → g' 6 2 = d → zR g g' → (∀ i, g' 7 i = g 7 i) → Q (.inl (some (.int (I 1)))) (x_vm g') n) : x_V S 29 0 [some (.ref 3), some (.ref 6), none, none, none] [] (x_vm g) n Q := by
  unfold zhead at hN hY
  refine s29_0 rfl ?_
  refine s29_1 ?_
  refine s29_3 rfl (by simp) ?_
  refine c32 hS hp ⟨by omega, by omega⟩ ⟨by omega, by omega⟩ (fun q g1 e1 hA1 => ?_) (fun e1 => ?_)
  rotate_left
  · refine ⟨_, rfl, ?_⟩
    rw [e1] at hN
    refine s29_6 ⟨by omega, by omega⟩ (fun h6 => ?_) (fun h6 => ?_)
    · exact absurd rfl h6
    · refine s29_9 ?_
      refine s29_10 (st := []) (by omega) ?_
      exact hN rfl g zR.rf (fun _ => rfl)
  refine ⟨_, rfl, ?_⟩
  rw [e1] at hN hY
  simp only at hN hY
  have b1 := zop_b e1
  have hc := zchr_b hS q
  refine s29_6 ⟨by omega, by omega⟩ (fun h6 => ?_) (fun h6 => absurd h6 (by decide))
  refine s29_11 rfl ?_
  refine s29_12 rfl (by simp) ?_
  refine c34 (hA1.s hS) hA1.1 ⟨by omega, by omega⟩ (fun g2 hA2 => ?_)
  refine ⟨_, rfl, ?_⟩
  have hA2' := hA1.tr hA2
  refine s29_15 ?_
  refine s29_16 rfl ?_
  refine s29_17 (by simp) ?_
  refine c1 ⟨by omega, by omega⟩ (fun hpe => ?_) (fun hpe => ?_)
  rotate_left
  · refine ⟨_, rfl, ?_⟩
    rw [if_neg (show ¬ zpeer _ from hpe)] at hN
    refine s29_20 ⟨by omega, by omega⟩ (fun h20 => ?_) (fun h20 => ?_)
    · refine s29_32 ?_
      refine s29_33 (st := []) (by omega) ?_
      exact hN rfl g2 hA2'.r (fun i => hA2'.2 _ _ (by omega))
    · exact absurd rfl h20
  refine ⟨_, rfl, ?_⟩
  rw [if_pos (show zpeer _ from hpe)] at hN hY
  refine s29_20 ⟨by omega, by omega⟩ (fun h20 => absurd h20 (by decide)) (fun h20 => ?_)
  refine s29_23 rfl ?_
  refine s29_24 ?_
  refine s29_26 rfl (by simp) ?_
  refine c32 (hA2'.s hS) hA2.1 ⟨by omega, by omega⟩ ⟨by omega, by omega⟩ (fun r g3 e3 hA3 => ?_) (fun e3 => ?_)
  rotate_left
  · refine ⟨_, rfl, ?_⟩
    rw [e3] at hN
    refine s29_29 ⟨by omega, by omega⟩ (fun h29 => ?_) (fun h29 => ?_)
    · exact absurd rfl h29
    · refine s29_32 ?_
      refine s29_33 (st := []) (by omega) ?_
      exact hN rfl g2 hA2'.r (fun i => hA2'.2 _ _ (by omega))
  refine ⟨_, rfl, ?_⟩
  rw [e3] at hN hY
  simp only at hN hY
  have b3 := zop_b e3
  have hA3' := hA2'.tr hA3
  have hz := znum_b (f := f) r (by omega)
  refine s29_29 ⟨by omega, by omega⟩ (fun h29 => ?_) (fun h29 => absurd h29 (by decide))
  refine s29_34 rfl ?_
  refine s29_35 rfl (by simp) ?_
  refine c33 (hA3'.s hS) hA3'.1 ⟨by omega, by omega⟩ (fun g4 hA4 => ?_)
  refine ⟨_, rfl, ?_⟩
  have hA4' := hA3'.tr hA4
  refine s29_38 ?_
  refine s29_39 rfl ?_
  refine s29_40 ?_
  refine s29_42 rfl (by simp) ?_
  generalize (znum f r).1 = m at hz hN hY
  generalize (znum f r).2 = s at hz hN hY hA4 hA4'
  generalize zchr f q = t at hc hpe hN hY
  refine c32 (hA4'.s hS) hA4'.1 ⟨by omega, by omega⟩ ⟨by omega, by omega⟩ (fun w g5 e5 hA5 => ?_) (fun e5 => ?_)
  · refine ⟨_, rfl, ?_⟩
    rw [e5] at hN hY
    simp only at hN hY
    have b5 := zop_b e5
    have hA5' := hA4'.tr hA5
    have hc5 := zchr_b hS w
    have hR5 : zR g (x_bg 6 t m 1 g5) := hA5'.r.tr zR.bg
    have v5 : ∀ i, x_bg 6 t m 1 g5 7 i = g 7 i := fun i => by rw [x_bg_ne (by omega)]; exact hA5'.2 _ _ (by omega)
    have k5 := x_bg_v (a := 6) (t := t) (m := m) (d := 1) (g := g5)
    have at5 : x_bg 6 t m 1 g5 3 1 = w := by rw [x_bg_ne (by omega)]; exact hA5'.1
    refine s29_45 ?_
    refine s29_47 rfl ?_
    refine s29_48 rfl ?_
    refine s29_49 rfl ?_
    refine s29_50 rfl ?_
    refine s29_52 (by first | assumption | rfl) (by simp) ?_
    refine c22 x_msg6 (Or.inr rfl) ?_
    refine ⟨_, rfl, ?_⟩
    refine s29_55 rfl ?_
    refine s29_56 ?_
    refine s29_57 ⟨by omega, by omega⟩ ⟨by omega, by omega⟩ (fun h57 => ?_) (fun h57 => ?_)
    · refine s29_78 ?_
      refine s29_79 (st := []) (by omega) ?_
      first
        | (rw [if_pos (Or.inl (by omega))] at hN; exact hN rfl _ hR5 v5)
        | (rw [if_pos (Or.inr (by omega))] at hN; exact hN rfl _ (hR5.tr hA6.r) (fun i => by rw [hA6.2 _ _ (by omega)]; exact v5 i))
        | (rw [if_neg (fun z => by omega)] at hY
           exact hY _ _ _ _ _ rfl hA6.1 (by rw [hA6.2 _ _ (by omega)]; exact k5.1) (by rw [hA6.2 _ _ (by omega)]; exact k5.2.1) (by rw [hA6.2 _ _ (by omega)]; exact k5.2.2) (hR5.tr hA6.r) (fun i => by rw [hA6.2 _ _ (by omega)]; exact v5 i))
        | (exfalso; omega)
    · refine s29_60 rfl ?_
      refine s29_62 ⟨by omega, by omega⟩ (fun h62 => ?_) (fun h62 => ?_)
      · refine s29_74 ?_
        refine s29_75 ?_
        refine s29_79 (st := []) (by omega) ?_
        first
          | (rw [if_pos (Or.inl (by omega))] at hN; exact hN rfl _ hR5 v5)
          | (rw [if_pos (Or.inr (by omega))] at hN; exact hN rfl _ (hR5.tr hA6.r) (fun i => by rw [hA6.2 _ _ (by omega)]; exact v5 i))
          | (rw [if_neg (fun z => by omega)] at hY
             exact hY _ _ _ _ _ rfl hA6.1 (by rw [hA6.2 _ _ (by omega)]; exact k5.1) (by rw [hA6.2 _ _ (by omega)]; exact k5.2.1) (by rw [hA6.2 _ _ (by omega)]; exact k5.2.2) (hR5.tr hA6.r) (fun i => by rw [hA6.2 _ _ (by omega)]; exact v5 i))
          | (exfalso; omega)
      · refine s29_65 rfl ?_
        refine s29_66 (by first | assumption | rfl) (by simp) ?_
        refine c34 (hR5.s hS) at5 ⟨by omega, by omega⟩ (fun g6 hA6 => ?_)
        refine ⟨_, rfl, ?_⟩
        refine s29_69 ?_
        refine s29_71 ⟨by omega, by omega⟩ ⟨by omega, by omega⟩ (fun h71 => ?_) (fun h71 => ?_)
        · refine s29_78 ?_
          refine s29_79 (st := []) (by omega) ?_
          first
            | (rw [if_pos (Or.inl (by omega))] at hN; exact hN rfl _ hR5 v5)
            | (rw [if_pos (Or.inr (by omega))] at hN; exact hN rfl _ (hR5.tr hA6.r) (fun i => by rw [hA6.2 _ _ (by omega)]; exact v5 i))
            | (rw [if_neg (fun z => by omega)] at hY
               exact hY _ _ _ _ _ rfl hA6.1 (by rw [hA6.2 _ _ (by omega)]; exact k5.1) (by rw [hA6.2 _ _ (by omega)]; exact k5.2.1) (by rw [hA6.2 _ _ (by omega)]; exact k5.2.2) (hR5.tr hA6.r) (fun i => by rw [hA6.2 _ _ (by omega)]; exact v5 i))
            | (exfalso; omega)
        · refine s29_74 ?_
          refine s29_75 ?_
          refine s29_79 (st := []) (by omega) ?_
          first
            | (rw [if_pos (Or.inl (by omega))] at hN; exact hN rfl _ hR5 v5)
            | (rw [if_pos (Or.inr (by omega))] at hN; exact hN rfl _ (hR5.tr hA6.r) (fun i => by rw [hA6.2 _ _ (by omega)]; exact v5 i))
            | (rw [if_neg (fun z => by omega)] at hY
               exact hY _ _ _ _ _ rfl hA6.1 (by rw [hA6.2 _ _ (by omega)]; exact k5.1) (by rw [hA6.2 _ _ (by omega)]; exact k5.2.1) (by rw [hA6.2 _ _ (by omega)]; exact k5.2.2) (hR5.tr hA6.r) (fun i => by rw [hA6.2 _ _ (by omega)]; exact v5 i))
            | (exfalso; omega)
  · refine ⟨_, rfl, ?_⟩
    rw [e5] at hN hY
    simp only at hN hY
    have hR5 : zR g (x_bg 6 t m 0 g4) := hA4'.r.tr zR.bg
    have v5 : ∀ i, x_bg 6 t m 0 g4 7 i = g 7 i := fun i => by rw [x_bg_ne (by omega)]; exact hA4'.2 _ _ (by omega)
    have k5 := x_bg_v (a := 6) (t := t) (m := m) (d := 0) (g := g4)
    have at5 : x_bg 6 t m 0 g4 3 1 = s := by rw [x_bg_ne (by omega)]; exact hA4'.1
    refine s29_45 ?_
    refine s29_47 rfl ?_
    refine s29_48 rfl ?_
    refine s29_49 rfl ?_
    refine s29_50 rfl ?_
    refine s29_52 (by first | assumption | rfl) (by simp) ?_
    refine c22 x_msg6 (Or.inl rfl) ?_
    refine ⟨_, rfl, ?_⟩
    refine s29_55 rfl ?_
    refine s29_56 ?_
    refine s29_57 ⟨by omega, by omega⟩ ⟨by omega, by omega⟩ (fun h57 => ?_) (fun h57 => ?_)
    · refine s29_78 ?_
      refine s29_79 (st := []) (by omega) ?_
      first
        | (rw [if_pos (by omega)] at hN; exact hN rfl _ hR5 v5)
        | (rw [if_neg (by omega)] at hY; exact hY _ _ _ _ _ rfl at5 k5.1 k5.2.1 k5.2.2 hR5 v5)
    · refine s29_60 rfl ?_
      refine s29_62 ⟨by omega, by omega⟩ (fun h62 => ?_) (fun h62 => ?_)
      · refine s29_74 ?_
        refine s29_75 ?_
        refine s29_79 (st := []) (by omega) ?_
        first
          | (rw [if_pos (by omega)] at hN; exact hN rfl _ hR5 v5)
          | (rw [if_neg (by omega)] at hY; exact hY _ _ _ _ _ rfl at5 k5.1 k5.2.1 k5.2.2 hR5 v5)
      · exact absurd rfl h62
end CJ
