/-! 43.make: the reference writes a frame. -/
section MX
variable {S : Nat × (Nat → Int32)} {μ : xM} {g : Nat → Nat → Int} {n : Nat} {Q : xQ} {m : Bool} {k : Nat} {l : List Int}
theorem c94 {t p q r s w : Int} (hm : mM g m k) (ht : xty t) (hp : -1 ≤ p ∧ p ≤ 999999) (hq : -1 ≤ q ∧ q ≤ 999999) (hr : -1 ≤ r ∧ r ≤ 999999) (hs : -1 ≤ s ∧ s ≤ 999999) (hw : w = 0 ∨ w = 1) (hl : l.length + 47 ≤ 120) (h : Q (.inl (some (.int (I (bw t (yv p q r s) 4 0).length)))) (x_vm (mw m k (if w = 1 then l ++ bw t (yv p q r s) 4 0 else l) g)) n) : x_V S 94 0 [some (.ref 100), some (.int (I t)), some (.int (I p)), some (.int (I q)), some (.int (I r)), some (.int (I s)), some (.int (I w)), none, none, none, none, none] [] (x_vm (mw m k l g)) n Q := by
  refine s94_0 ?_
  refine s94_1 ?_
  refine s94_3 ?_
  refine s94_4 ?_
  refine l94 hm ht hp hq hr hs hw 4 0 l 0 _ _ _ rfl (by omega) (by omega) (by omega) ?_
  rw [Int.zero_add]
  exact h
theorem c92 {j : Nat} (hm : mM g m k) (hj : j < l.length) (hl : l.length ≤ 120) (h : Q (.inl (some (.int (I (if m = true ∨ k < 20 then l.getD j 0 else 0))))) (x_vm (mw m k l g)) n) : x_V S 92 0 [some (.ref 100), some (.int (I j))] [] (x_vm (mw m k l g)) n Q := by
  obtain ⟨h1, h2, h3⟩ := hm
  have e38 : mw m k l g 100 38 = if m = true then 1 else 0 := (mw_ot (by omega) (by omega) (by omega)).trans h1
  have e15 : mw m k l g 100 15 = k := (mw_ot (by omega) (by omega) (by omega)).trans h2
  cases m with
  | true =>
    rw [if_pos (Or.inl rfl)] at h
    rw [if_pos rfl] at e38
    refine s92_0 rfl ?_
    refine s92_1 (by first | assumption | rfl) (by first | assumption | (exact hpo _) | rfl | decide) (by first | assumption | decide | omega) ?_
    rw [e38]
    refine s92_4 ⟨by omega, by omega⟩ (fun h4 => ?_) (fun h4 => ?_)
    · exfalso; omega
    · refine s92_7 rfl ?_
      refine s92_8 (by first | assumption | rfl) (by first | assumption | (exact hpo _) | rfl | decide) ?_
      refine s92_11 rfl ?_
      refine v_iald d92_12 (by first | assumption | rfl) (by omega) (by omega) (by omega) (by first | assumption | (exact hpo _) | rfl | decide) (by first | assumption | decide | omega) ?_
      rw [Int.toNat_natCast, mwt, if_neg (by omega), if_pos ⟨rfl, hj⟩]
      refine s92_13 ?_
      refine s92_43 (st := []) ?_
      exact h
  | false =>
    rw [if_neg (by decide)] at e38
    refine s92_0 rfl ?_
    refine s92_1 (by first | assumption | rfl) (by first | assumption | (exact hpo _) | rfl | decide) (by first | assumption | decide | omega) ?_
    rw [e38]
    refine s92_4 ⟨by omega, by omega⟩ (fun h4 => ?_) (fun h4 => ?_)
    · refine s92_16 rfl ?_
      refine s92_17 (by first | assumption | rfl) (by first | assumption | (exact hpo _) | rfl | decide) (by first | assumption | decide | omega) ?_
      rw [e15]
      refine s92_20 ?_
      refine s92_22 ⟨by omega, by omega⟩ ⟨by omega, by omega⟩ (fun h22 => ?_) (fun h22 => ?_)
      · refine s92_42 ?_
        refine s92_43 (st := []) ?_
        first
          | (rw [if_pos (Or.inr (by omega))] at h; exact h)
          | (rw [if_neg (fun z => z.elim (fun z => by cases z) (fun z => by omega))] at h; exact h)
      · refine s92_25 rfl ?_
        refine s92_26 (by first | assumption | rfl) (by first | assumption | (exact hpo _) | rfl | decide) ?_
        refine s92_29 ?_
        refine s92_31 rfl ?_
        refine s92_32 (by first | assumption | rfl) (by first | assumption | (exact hpo _) | rfl | decide) (by first | assumption | decide | omega) ?_
        rw [e15]
        refine s92_35 ?_
        refine s92_36 rfl ?_
        refine s92_37 ?_
        refine v_iald d92_38 (by first | assumption | rfl) (by omega) (by omega) (by omega) (by first | assumption | (exact hpo _) | rfl | decide) (by first | assumption | decide | omega) ?_
        rw [show ((120 : Int) * (k : Int) + (j : Int)).toNat = 120 * k + j by omega, mwf, if_neg (by omega), if_pos ⟨by omega, rfl, by omega, by omega⟩, show 120 * k + j - 120 * k = j by omega]
        refine s92_39 ?_
        refine s92_43 (st := []) ?_
        first
          | (rw [if_pos (Or.inr (by omega))] at h; exact h)
          | (rw [if_neg (fun z => z.elim (fun z => by cases z) (fun z => by omega))] at h; exact h)
    · exfalso; omega
theorem mw_nil_t : x_uf g 100 2 0 = mw true k [] g := by
  funext a i
  rw [mwt]
  by_cases c : a = 100 ∧ i = 2
  · rw [if_pos c, c.1, c.2, x_uf_eq]; rfl
  · rw [if_neg c, x_uf_ne c, if_neg (fun z => Nat.not_lt_zero _ z.2)]
theorem mw_nil_f : x_uf (x_uf g 100 18 0) 100 2 (x_uf g 100 18 0 100 2) = mw false k [] g := by
  funext a i
  rw [mwf]
  by_cases c : a = 100 ∧ i = 18
  · rw [if_pos c, c.1, c.2, x_uf_ne (by omega), x_uf_eq]; rfl
  · rw [if_neg c, if_neg (fun z => by have := z.2.2.2; simp only [List.length_nil] at this; omega)]
    by_cases c2 : a = 100 ∧ i = 2
    · rw [c2.1, c2.2, x_uf_eq, x_uf_ne (by omega)]
    · rw [x_uf_ne c2, x_uf_ne c]
def rg (m : Bool) (g : Nat → Nat → Int) : Nat → Nat → Int := if m = true then x_uf g 100 18 0 else g
theorem mM_rg (hm : mM g m k) : mM (rg m g) m k := by
  unfold rg
  cases m with
  | true => rw [if_pos rfl]; exact ⟨by rw [x_uf_ne (by omega)]; exact hm.1, by rw [x_uf_ne (by omega)]; exact hm.2.1, hm.2.2⟩
  | false => rw [if_neg (by decide)]; exact hm
/-- what the reference is given for the second value -/
def mq (t q : Int) : Int := if t = 52 then (if 0 < q then 89 else 78) else q
def rok (M : yM) : Prop := yfok M ∧ xty M.1 ∧ (M.1 ≠ 48 → 0 ≤ M.2.2.2.1) ∧ 0 ≤ M.2.2.2.2.1 ∧ 0 ≤ M.2.2.2.2.2.1 ∧ 0 ≤ M.2.2.2.2.2.2
theorem x_fc_v : x_fc 48 = 1 ∧ x_fc 49 = 1 ∧ x_fc 50 = 2 ∧ x_fc 52 = 2 ∧ x_fc 53 = 0 ∧ x_fc 65 = 1 ∧ x_fc 68 = 3 ∧ x_fc 70 = 2 ∧ x_fc 71 = 3 ∧ x_fc 56 = 4 := by decide
theorem bw_s {t : Int} {u : Nat → Int} {d i : Nat} (h1 : x_tg t i ≠ 0) (h2 : 0 ≤ u i) : bw t u (d + 1) i = xfl t u i ++ bw t u d (i + 1) := by
  rw [bw, if_neg (by omega)]
theorem bw_e {t : Int} {u : Nat → Int} {d i : Nat} (h1 : x_tg t i = 0) : bw t u (d + 1) i = [] := by
  rw [bw, if_pos (Or.inl h1)]
theorem xfl_n {t : Int} {u : Nat → Int} {i : Nat} (h : ¬ xsg t i) : xfl t u i = x_nf (x_tg t i) (u i) := if_neg h
theorem xfl_c {t : Int} {u : Nat → Int} {i : Nat} (h : xsg t i) : xfl t u i = x_chf (x_tg t i) (u i) := if_pos h
theorem xof_n {t : Int} {u : Nat → Int} {i : Nat} (h1 : x_tg t i ≠ 123) (h2 : x_tg t i ≠ 39) (h3 : u i ≠ -1) : x_of t u i = x_nf (x_tg t i) (u i) := by
  unfold x_of
  rw [if_neg h1, if_neg h2, if_neg h3]
theorem bw_owl {t nn d p q r s : Int} (ho : rok (t, nn, d, p, q, r, s)) : bw t (yv p (mq t q) r s) 4 0 = x_owl t (yv p q r s) (x_fc t).toNat 0 := by
  obtain ⟨⟨o1, o2, o3, o4, o5, o6, o7, o8⟩, ht, hp, hq, hr, hs⟩ := ho
  simp only at ht hp hq hr hs o4
  have fv := x_fc_v
  obtain ⟨f48, f49, f50, f52, f53, f65, f68, f70, f71, f56⟩ := fv
  have tv := x_tg_v
  obtain ⟨g48_0, g48_1, g48_2, g48_3, g49_0, g49_1, g49_2, g49_3, g50_0, g50_1, g50_2, g50_3, g52_0, g52_1, g52_2, g52_3, g53_0, g53_1, g53_2, g53_3, g65_0, g65_1, g65_2, g65_3, g68_0, g68_1, g68_2, g68_3, g70_0, g70_1, g70_2, g70_3, g71_0, g71_1, g71_2, g71_3, g56_0, g56_1, g56_2, g56_3⟩ := tv
  rcases ht with e | e | e | e | e | e | e | e | e | e
  · rw [e] at hp ⊢
    rw [f48, show (((1 : Int)).toNat) = 1 from rfl]
    have v0 : yv p (mq 48 q) r s 0 = p := rfl
    have v1 : yv p (mq 48 q) r s 1 = mq 48 q := rfl
    have v2 : yv p (mq 48 q) r s 2 = r := rfl
    have v3 : yv p (mq 48 q) r s 3 = s := rfl
    have m1 : mq 48 q = q := if_neg (by decide)
    by_cases c : p < 0
    · rw [bw, if_pos (Or.inr (show yv p (mq 48 q) r s 0 < 0 from c)), x_owl, x_owl, List.append_nil]
      unfold x_of
      rw [if_neg (by rw [show x_tg 48 ((0 : Nat) : Int) = 112 from g48_0]; decide), if_neg (by rw [show x_tg 48 ((0 : Nat) : Int) = 112 from g48_0]; decide), if_pos (show yv p q r s 0 = -1 from (show p = -1 by omega))]
    have hp : 0 ≤ p := by omega
    rw [bw_s (i := 0) (by rw [show x_tg 48 ((0 : Nat) : Int) = 112 from g48_0]; decide) (show 0 ≤ p from hp), bw_e (i := 1) (show x_tg 48 ((1 : Nat) : Int) = 0 from g48_1), xfl_n (i := 0) (by decide)]
    rw [x_owl, x_owl]
    rw [show x_of 48 (yv p q r s) (0) = x_nf (x_tg 48 ((0 : Nat) : Int)) p from xof_n (i := 0) (by rw [show x_tg 48 ((0 : Nat) : Int) = 112 from g48_0]; decide) (by rw [show x_tg 48 ((0 : Nat) : Int) = 112 from g48_0]; decide) (show p ≠ -1 by omega)]
    first | rfl | (rw [v0, v1, m1]) | (rw [v0, v1, m1]; rfl)
  · rw [e] at hp ⊢
    rw [f49, show (((1 : Int)).toNat) = 1 from rfl]
    have v0 : yv p (mq 49 q) r s 0 = p := rfl
    have v1 : yv p (mq 49 q) r s 1 = mq 49 q := rfl
    have v2 : yv p (mq 49 q) r s 2 = r := rfl
    have v3 : yv p (mq 49 q) r s 3 = s := rfl
    have m1 : mq 49 q = q := if_neg (by decide)
    have hp := hp (by decide)
    rw [bw_s (i := 0) (by rw [show x_tg 49 ((0 : Nat) : Int) = 112 from g49_0]; decide) (show 0 ≤ p from hp), bw_e (i := 1) (show x_tg 49 ((1 : Nat) : Int) = 0 from g49_1), xfl_n (i := 0) (by decide)]
    rw [x_owl, x_owl]
    rw [show x_of 49 (yv p q r s) (0) = x_nf (x_tg 49 ((0 : Nat) : Int)) p from xof_n (i := 0) (by rw [show x_tg 49 ((0 : Nat) : Int) = 112 from g49_0]; decide) (by rw [show x_tg 49 ((0 : Nat) : Int) = 112 from g49_0]; decide) (show p ≠ -1 by omega)]
    first | rfl | (rw [v0, v1, m1]) | (rw [v0, v1, m1]; rfl)
  · rw [e] at hp ⊢
    rw [f50, show (((2 : Int)).toNat) = 2 from rfl]
    have v0 : yv p (mq 50 q) r s 0 = p := rfl
    have v1 : yv p (mq 50 q) r s 1 = mq 50 q := rfl
    have v2 : yv p (mq 50 q) r s 2 = r := rfl
    have v3 : yv p (mq 50 q) r s 3 = s := rfl
    have m1 : mq 50 q = q := if_neg (by decide)
    have hp := hp (by decide)
    rw [bw_s (i := 0) (by rw [show x_tg 50 ((0 : Nat) : Int) = 7 from g50_0]; decide) (show 0 ≤ p from hp), bw_s (i := 1) (by rw [show x_tg 50 ((1 : Nat) : Int) = 16 from g50_1]; decide) (show 0 ≤ mq 50 q by rw [m1]; omega), bw_e (i := 2) (show x_tg 50 ((2 : Nat) : Int) = 0 from g50_2), xfl_n (i := 0) (by decide), xfl_n (i := 1) (by decide)]
    rw [x_owl, x_owl, x_owl]
    rw [show x_of 50 (yv p q r s) (0) = x_nf (x_tg 50 ((0 : Nat) : Int)) p from xof_n (i := 0) (by rw [show x_tg 50 ((0 : Nat) : Int) = 7 from g50_0]; decide) (by rw [show x_tg 50 ((0 : Nat) : Int) = 7 from g50_0]; decide) (show p ≠ -1 by omega)]
    rw [show x_of 50 (yv p q r s) (0 + 1) = x_nf (x_tg 50 ((1 : Nat) : Int)) q from xof_n (i := 1) (by rw [show x_tg 50 ((1 : Nat) : Int) = 16 from g50_1]; decide) (by rw [show x_tg 50 ((1 : Nat) : Int) = 16 from g50_1]; decide) (show q ≠ -1 by omega)]
    first | rfl | (rw [v0, v1, m1]) | (rw [v0, v1, m1]; rfl)
  · rw [e] at hp ⊢
    rw [f52, show (((2 : Int)).toNat) = 2 from rfl]
    have v0 : yv p (mq 52 q) r s 0 = p := rfl
    have v1 : yv p (mq 52 q) r s 1 = mq 52 q := rfl
    have v2 : yv p (mq 52 q) r s 2 = r := rfl
    have v3 : yv p (mq 52 q) r s 3 = s := rfl
    have m1 : mq 52 q = if 0 < q then 89 else 78 := if_pos rfl
    have m2 : 0 ≤ (if 0 < q then (89 : Int) else 78) := by split <;> decide
    have hp := hp (by decide)
    rw [bw_s (i := 0) (by rw [show x_tg 52 ((0 : Nat) : Int) = 36 from g52_0]; decide) (show 0 ≤ p from hp), bw_s (i := 1) (by rw [show x_tg 52 ((1 : Nat) : Int) = 123 from g52_1]; decide) (show 0 ≤ mq 52 q by rw [m1]; omega), bw_e (i := 2) (show x_tg 52 ((2 : Nat) : Int) = 0 from g52_2), xfl_n (i := 0) (by decide), xfl_c (i := 1) (by decide)]
    rw [x_owl, x_owl, x_owl]
    rw [show x_of 52 (yv p q r s) (0) = x_nf (x_tg 52 ((0 : Nat) : Int)) p from xof_n (i := 0) (by rw [show x_tg 52 ((0 : Nat) : Int) = 36 from g52_0]; decide) (by rw [show x_tg 52 ((0 : Nat) : Int) = 36 from g52_0]; decide) (show p ≠ -1 by omega)]
    rw [show x_of 52 (yv p q r s) (0 + 1) = x_chf (x_tg 52 ((1 : Nat) : Int)) (if 0 < q then 89 else 78) from by unfold x_of; rw [if_pos (show x_tg 52 ((0 + 1 : Nat) : Int) = 123 from g52_1)]; rfl]
    first | rfl | (rw [v0, v1, m1]) | (rw [v0, v1, m1]; rfl)
  · rw [e] at hp ⊢
    rw [f53, show (((0 : Int)).toNat) = 0 from rfl]
    have v0 : yv p (mq 53 q) r s 0 = p := rfl
    have v1 : yv p (mq 53 q) r s 1 = mq 53 q := rfl
    have v2 : yv p (mq 53 q) r s 2 = r := rfl
    have v3 : yv p (mq 53 q) r s 3 = s := rfl
    have m1 : mq 53 q = q := if_neg (by decide)
    have hp := hp (by decide)
    rw [bw_e (i := 0) (show x_tg 53 ((0 : Nat) : Int) = 0 from g53_0)]
    rw [x_owl]
  · rw [e] at hp ⊢
    rw [f65, show (((1 : Int)).toNat) = 1 from rfl]
    have v0 : yv p (mq 65 q) r s 0 = p := rfl
    have v1 : yv p (mq 65 q) r s 1 = mq 65 q := rfl
    have v2 : yv p (mq 65 q) r s 2 = r := rfl
    have v3 : yv p (mq 65 q) r s 3 = s := rfl
    have m1 : mq 65 q = q := if_neg (by decide)
    have hp := hp (by decide)
    rw [bw_s (i := 0) (by rw [show x_tg 65 ((0 : Nat) : Int) = 108 from g65_0]; decide) (show 0 ≤ p from hp), bw_e (i := 1) (show x_tg 65 ((1 : Nat) : Int) = 0 from g65_1), xfl_n (i := 0) (by decide)]
    rw [x_owl, x_owl]
    rw [show x_of 65 (yv p q r s) (0) = x_nf (x_tg 65 ((0 : Nat) : Int)) p from xof_n (i := 0) (by rw [show x_tg 65 ((0 : Nat) : Int) = 108 from g65_0]; decide) (by rw [show x_tg 65 ((0 : Nat) : Int) = 108 from g65_0]; decide) (show p ≠ -1 by omega)]
    first | rfl | (rw [v0, v1, m1]) | (rw [v0, v1, m1]; rfl)
  · rw [e] at hp ⊢
    rw [f68, show (((3 : Int)).toNat) = 3 from rfl]
    have v0 : yv p (mq 68 q) r s 0 = p := rfl
    have v1 : yv p (mq 68 q) r s 1 = mq 68 q := rfl
    have v2 : yv p (mq 68 q) r s 2 = r := rfl
    have v3 : yv p (mq 68 q) r s 3 = s := rfl
    have m1 : mq 68 q = q := if_neg (by decide)
    have hp := hp (by decide)
    rw [bw_s (i := 0) (by rw [show x_tg 68 ((0 : Nat) : Int) = 11 from g68_0]; decide) (show 0 ≤ p from hp), bw_s (i := 1) (by rw [show x_tg 68 ((1 : Nat) : Int) = 54 from g68_1]; decide) (show 0 ≤ mq 68 q by rw [m1]; omega), bw_s (i := 2) (by rw [show x_tg 68 ((2 : Nat) : Int) = 38 from g68_2]; decide) (show 0 ≤ r from hr), bw_e (i := 3) (show x_tg 68 ((3 : Nat) : Int) = 0 from g68_3), xfl_n (i := 0) (by decide), xfl_n (i := 1) (by decide), xfl_n (i := 2) (by decide)]
    rw [x_owl, x_owl, x_owl, x_owl]
    rw [show x_of 68 (yv p q r s) (0) = x_nf (x_tg 68 ((0 : Nat) : Int)) p from xof_n (i := 0) (by rw [show x_tg 68 ((0 : Nat) : Int) = 11 from g68_0]; decide) (by rw [show x_tg 68 ((0 : Nat) : Int) = 11 from g68_0]; decide) (show p ≠ -1 by omega)]
    rw [show x_of 68 (yv p q r s) (0 + 1) = x_nf (x_tg 68 ((1 : Nat) : Int)) q from xof_n (i := 1) (by rw [show x_tg 68 ((1 : Nat) : Int) = 54 from g68_1]; decide) (by rw [show x_tg 68 ((1 : Nat) : Int) = 54 from g68_1]; decide) (show q ≠ -1 by omega)]
    rw [show x_of 68 (yv p q r s) (0 + 1 + 1) = x_nf (x_tg 68 ((2 : Nat) : Int)) r from xof_n (i := 2) (by rw [show x_tg 68 ((2 : Nat) : Int) = 38 from g68_2]; decide) (by rw [show x_tg 68 ((2 : Nat) : Int) = 38 from g68_2]; decide) (show r ≠ -1 by omega)]
    first | rfl | (rw [v0, v1, m1]) | (rw [v0, v1, m1]; rfl)
  · rw [e] at hp ⊢
    rw [f70, show (((2 : Int)).toNat) = 2 from rfl]
    have v0 : yv p (mq 70 q) r s 0 = p := rfl
    have v1 : yv p (mq 70 q) r s 1 = mq 70 q := rfl
    have v2 : yv p (mq 70 q) r s 2 = r := rfl
    have v3 : yv p (mq 70 q) r s 3 = s := rfl
    have m1 : mq 70 q = q := if_neg (by decide)
    have hp := hp (by decide)
    rw [bw_s (i := 0) (by rw [show x_tg 70 ((0 : Nat) : Int) = 11 from g70_0]; decide) (show 0 ≤ p from hp), bw_s (i := 1) (by rw [show x_tg 70 ((1 : Nat) : Int) = 41 from g70_1]; decide) (show 0 ≤ mq 70 q by rw [m1]; omega), bw_e (i := 2) (show x_tg 70 ((2 : Nat) : Int) = 0 from g70_2), xfl_n (i := 0) (by decide), xfl_n (i := 1) (by decide)]
    rw [x_owl, x_owl, x_owl]
    rw [show x_of 70 (yv p q r s) (0) = x_nf (x_tg 70 ((0 : Nat) : Int)) p from xof_n (i := 0) (by rw [show x_tg 70 ((0 : Nat) : Int) = 11 from g70_0]; decide) (by rw [show x_tg 70 ((0 : Nat) : Int) = 11 from g70_0]; decide) (show p ≠ -1 by omega)]
    rw [show x_of 70 (yv p q r s) (0 + 1) = x_nf (x_tg 70 ((1 : Nat) : Int)) q from xof_n (i := 1) (by rw [show x_tg 70 ((1 : Nat) : Int) = 41 from g70_1]; decide) (by rw [show x_tg 70 ((1 : Nat) : Int) = 41 from g70_1]; decide) (show q ≠ -1 by omega)]
    first | rfl | (rw [v0, v1, m1]) | (rw [v0, v1, m1]; rfl)
  · rw [e] at hp ⊢
    rw [f71, show (((3 : Int)).toNat) = 3 from rfl]
    have v0 : yv p (mq 71 q) r s 0 = p := rfl
    have v1 : yv p (mq 71 q) r s 1 = mq 71 q := rfl
    have v2 : yv p (mq 71 q) r s 2 = r := rfl
    have v3 : yv p (mq 71 q) r s 3 = s := rfl
    have m1 : mq 71 q = q := if_neg (by decide)
    have hp := hp (by decide)
    rw [bw_s (i := 0) (by rw [show x_tg 71 ((0 : Nat) : Int) = 11 from g71_0]; decide) (show 0 ≤ p from hp), bw_s (i := 1) (by rw [show x_tg 71 ((1 : Nat) : Int) = 41 from g71_1]; decide) (show 0 ≤ mq 71 q by rw [m1]; omega), bw_s (i := 2) (by rw [show x_tg 71 ((2 : Nat) : Int) = 38 from g71_2]; decide) (show 0 ≤ r from hr), bw_e (i := 3) (show x_tg 71 ((3 : Nat) : Int) = 0 from g71_3), xfl_n (i := 0) (by decide), xfl_n (i := 1) (by decide), xfl_n (i := 2) (by decide)]
    rw [x_owl, x_owl, x_owl, x_owl]
    rw [show x_of 71 (yv p q r s) (0) = x_nf (x_tg 71 ((0 : Nat) : Int)) p from xof_n (i := 0) (by rw [show x_tg 71 ((0 : Nat) : Int) = 11 from g71_0]; decide) (by rw [show x_tg 71 ((0 : Nat) : Int) = 11 from g71_0]; decide) (show p ≠ -1 by omega)]
    rw [show x_of 71 (yv p q r s) (0 + 1) = x_nf (x_tg 71 ((1 : Nat) : Int)) q from xof_n (i := 1) (by rw [show x_tg 71 ((1 : Nat) : Int) = 41 from g71_1]; decide) (by rw [show x_tg 71 ((1 : Nat) : Int) = 41 from g71_1]; decide) (show q ≠ -1 by omega)]
    rw [show x_of 71 (yv p q r s) (0 + 1 + 1) = x_nf (x_tg 71 ((2 : Nat) : Int)) r from xof_n (i := 2) (by rw [show x_tg 71 ((2 : Nat) : Int) = 38 from g71_2]; decide) (by rw [show x_tg 71 ((2 : Nat) : Int) = 38 from g71_2]; decide) (show r ≠ -1 by omega)]
    first | rfl | (rw [v0, v1, m1]) | (rw [v0, v1, m1]; rfl)
  · rw [e] at hp ⊢
    rw [f56, show (((4 : Int)).toNat) = 4 from rfl]
    have v0 : yv p (mq 56 q) r s 0 = p := rfl
    have v1 : yv p (mq 56 q) r s 1 = mq 56 q := rfl
    have v2 : yv p (mq 56 q) r s 2 = r := rfl
    have v3 : yv p (mq 56 q) r s 3 = s := rfl
    have m1 : mq 56 q = q := if_neg (by decide)
    have hp := hp (by decide)
    rw [bw_s (i := 0) (by rw [show x_tg 56 ((0 : Nat) : Int) = 11 from g56_0]; decide) (show 0 ≤ p from hp), bw_s (i := 1) (by rw [show x_tg 56 ((1 : Nat) : Int) = 39 from g56_1]; decide) (show 0 ≤ mq 56 q by rw [m1]; omega), bw_s (i := 2) (by rw [show x_tg 56 ((2 : Nat) : Int) = 14 from g56_2]; decide) (show 0 ≤ r from hr), bw_s (i := 3) (by rw [show x_tg 56 ((3 : Nat) : Int) = 151 from g56_3]; decide) (show 0 ≤ s from hs), bw, xfl_n (i := 0) (by decide), xfl_c (i := 1) (by decide), xfl_n (i := 2) (by decide), xfl_n (i := 3) (by decide)]
    rw [x_owl, x_owl, x_owl, x_owl, x_owl]
    rw [show x_of 56 (yv p q r s) (0) = x_nf (x_tg 56 ((0 : Nat) : Int)) p from xof_n (i := 0) (by rw [show x_tg 56 ((0 : Nat) : Int) = 11 from g56_0]; decide) (by rw [show x_tg 56 ((0 : Nat) : Int) = 11 from g56_0]; decide) (show p ≠ -1 by omega)]
    rw [show x_of 56 (yv p q r s) (0 + 1) = x_chf (x_tg 56 ((1 : Nat) : Int)) q from by unfold x_of; rw [if_neg (by rw [show x_tg 56 ((0 + 1 : Nat) : Int) = 39 from g56_1]; decide), if_pos (show x_tg 56 ((0 + 1 : Nat) : Int) = 39 from g56_1)]; rfl]
    rw [show x_of 56 (yv p q r s) (0 + 1 + 1) = x_nf (x_tg 56 ((2 : Nat) : Int)) r from xof_n (i := 2) (by rw [show x_tg 56 ((2 : Nat) : Int) = 14 from g56_2]; decide) (by rw [show x_tg 56 ((2 : Nat) : Int) = 14 from g56_2]; decide) (show r ≠ -1 by omega)]
    rw [show x_of 56 (yv p q r s) (0 + 1 + 1 + 1) = x_nf (x_tg 56 ((3 : Nat) : Int)) s from xof_n (i := 3) (by rw [show x_tg 56 ((3 : Nat) : Int) = 151 from g56_3]; decide) (by rw [show x_tg 56 ((3 : Nat) : Int) = 151 from g56_3]; decide) (show s ≠ -1 by omega)]
    first | rfl | (rw [v0, v1, m1]) | (rw [v0, v1, m1]; rfl)
end MX
