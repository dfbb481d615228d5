/-! 33.link: contracts of TradeLink, the calls that only look. -/
section CN
variable {S : Nat × (Nat → Int32)} {μ : xM} {g : Nat → Nat → Int} {n v : Nat} {Q : xQ} {y : yS} {B : Int} {bs : List Int}
theorem ymok {k : Nat} (h : yC2 g y.2.1) (hk : k < 20) (hl : k < y.2.1.length) (hf : yfok (y.2.1.getD k yD)) : x_mok g (13 + 2 * k) (14 + 2 * k) ∧ x_fr (g (13 + 2 * k) 0) (g (13 + 2 * k) 1) (g (13 + 2 * k) 2) (g (14 + 2 * k)) = yfr (y.2.1.getD k yD) := by
  have e := h.2 k hk hl
  generalize y.2.1.getD k yD = m at e hf
  obtain ⟨t, mm, d, p, q, u, w⟩ := m
  have e0 : g (13 + 2 * k) 0 = t := congrArg (fun p => p.1) e
  have e1 : g (13 + 2 * k) 1 = mm := congrArg (fun p => p.2.1) e
  have e2 : g (13 + 2 * k) 2 = d := congrArg (fun p => p.2.2.1) e
  have e3 : g (14 + 2 * k) 0 = p := congrArg (fun p => p.2.2.2.1) e
  have e4 : g (14 + 2 * k) 1 = q := congrArg (fun p => p.2.2.2.2.1) e
  have e5 : g (14 + 2 * k) 2 = u := congrArg (fun p => p.2.2.2.2.2.1) e
  have e6 : g (14 + 2 * k) 3 = w := congrArg (fun p => p.2.2.2.2.2.2) e
  obtain ⟨f0, f1, f2, f3, f4, f5, f6, f7⟩ := hf
  simp only at f0 f1 f2 f3 f4 f5 f6 f7
  have ev : ∀ i, i < 4 → g (14 + 2 * k) i = yv p q u w i := fun i hi => by
    match i, hi with
    | 0, _ => exact e3
    | 1, _ => exact e4
    | 2, _ => exact e5
    | 3, _ => exact e6
  refine ⟨⟨by omega, by omega, by omega, fun i hi => ?_, fun i hi => ?_⟩, ?_⟩
  · match i, hi with
    | 0, _ => omega
    | 1, _ => omega
    | 2, _ => omega
    | 3, _ => omega
  · rw [e0] at hi
    obtain ⟨z1, z2⟩ := x_tg_ne hi
    rw [z2]
    have := f7 z1
    omega
  · rw [e0, e1, e2, x_fr_congr ev]
    rfl
theorem c77 (hZ : zC g y bs) (h : Q (.inl (some (.int (I y.2.1.length)))) (x_vm g) n) : x_V S 77 0 [some (.ref 2)] [] (x_vm g) n Q := by
  refine s77_0 rfl ?_
  refine s77_1 (by first | assumption | rfl) (by first | assumption | (exact hpo _) | rfl | decide) ?_
  refine s77_4 (by first | assumption | rfl) (by first | assumption | (exact hpo _) | rfl | decide) ?_
  refine s77_7 (by first | assumption | rfl) (by first | assumption | (exact hpo _) | rfl | decide) (by first | assumption | decide | omega) ?_
  rw [hZ.1.2.1.1]
  refine s77_10 (st := []) ?_
  exact h
theorem c78 {k : Int} (hZ : zC g y bs) (hk : ib k) (hlen : y.2.1.length ≤ 100000000) (hok : ∀ k, k < y.2.1.length → k < 20 → yfok (y.2.1.getD k yD)) (hn : 116 ≤ n ∧ n < 640) (hT : ¬ (0 ≤ k ∧ k < y.2.1.length ∧ k < 20) → Q (.inr 2) (x_vm g) (n + 1))
    (hR : (0 ≤ k ∧ k < y.2.1.length ∧ k < 20) → ∀ g', zC g' y bs → zF g g' → Q (.inl (some (.int (I (yfr (y.2.1.getD k.toNat yD)).length)))) (x_vm g') n) : x_V S 78 0 [some (.ref 2), some (.int (I k))] [] (x_vm g) n Q := by
  have hs := x_shx hn.1
  have hn2 : n < x_NM := hn.2
  have hk2 := hk
  obtain ⟨k1, k2⟩ := hk
  have e92 := hZ.1.2.1.1
  refine s78_0 rfl ?_
  refine s78_1 (by first | assumption | rfl) (by first | assumption | (exact hpo _) | rfl | decide) ?_
  refine s78_4 (by first | assumption | rfl) (by first | assumption | (exact hpo _) | rfl | decide) ?_
  refine s78_7 rfl ?_
  refine s78_8 (by first | assumption | rfl) (by simp) ?_
  refine c40 hk2 ⟨by omega, by omega⟩ ?_
  refine ⟨_, rfl, ?_⟩
  rw [e92]
  generalize ez : (if 0 ≤ k ∧ k < (y.2.1.length : Int) ∧ k < 20 then (1 : Int) else 0) = z
  have hz : (z = 0 ∧ ¬ (0 ≤ k ∧ k < y.2.1.length ∧ k < 20)) ∨ (z = 1 ∧ 0 ≤ k ∧ k < y.2.1.length ∧ k < 20) := by
    rw [← ez]
    split
    · exact Or.inr ⟨rfl, by assumption⟩
    · exact Or.inl ⟨rfl, by assumption⟩
  refine s78_11 ⟨by omega, by omega⟩ (fun h11 => ?_) (fun h11 => ?_)
  · refine s78_22 rfl ?_
    refine s78_23 (by first | assumption | rfl) (by first | assumption | (exact hpo _) | rfl | decide) ?_
    refine s78_26 (by first | assumption | rfl) (by first | assumption | (exact hpo _) | rfl | decide) ?_
    refine s78_29 rfl ?_
    refine s78_30 (by first | assumption | rfl) (by simp) ?_
    have hR := hR ⟨by omega, by omega, by omega⟩
    have hok := hok k.toNat (by omega) (by omega)
    obtain ⟨hm, hfr⟩ := ymok hZ.1.2.1 (k := k.toNat) (by omega) (by omega) hok
    have hZ1 := hZ.wr (yfr_by hok)
    have hF1 : zF g (x_rw 11 12 (yfr (y.2.1.getD k.toNat yD)) g) := zF.rw (by omega) (by omega)
    have e11 := x_rw_sz 11 12 (yfr (y.2.1.getD k.toNat yD)) g
    have e12 := fun (j : Nat) (hj : j < (yfr (y.2.1.getD k.toNat yD)).length) => x_rw_at (r := 11) (o := 12) (by omega) hj g
    rw [show (I k) = I ((k.toNat : Nat) : Int) by rw [show ((k.toNat : Nat) : Int) = k by omega]]
    refine c41 (k := k.toNat) ⟨by omega, by omega⟩ ⟨by omega, by omega⟩ hm hZ.2.2.2.1 ?_
    refine ⟨_, rfl, ?_⟩
    rw [hfr]
    generalize x_rw 11 12 (yfr (y.2.1.getD k.toNat yD)) g = g1 at hZ1 hF1 e11 e12 ⊢
    refine s78_33 (by first | assumption | rfl) (by first | assumption | (exact hpo _) | rfl | decide) (by first | assumption | decide | omega) ?_
    rw [e11]
    refine s78_36 (st := []) ?_
    exact hR _ hZ1 hF1
  · refine s78_14 (by first | assumption | rfl) (by first | assumption | omega) (by simp) ?_
    exact hT (by omega)
theorem c79 {k i : Int} (hZ : zC g y bs) (hk : ib k) (hi : ib i) (hlen : y.2.1.length ≤ 100000000) (hok : ∀ k, k < y.2.1.length → k < 20 → yfok (y.2.1.getD k yD)) (hn : 116 ≤ n ∧ n < 640) (hT : ¬ (0 ≤ k ∧ k < y.2.1.length ∧ k < 20) → Q (.inr 2) (x_vm g) (n + 1))
    (hR : (0 ≤ k ∧ k < y.2.1.length ∧ k < 20) → ∀ g', zC g' y bs → zF g g' → (¬ (0 ≤ i ∧ i < (yfr (y.2.1.getD k.toNat yD)).length) → Q (.inr 2) (x_vm g') (n + 1)) ∧ ((0 ≤ i ∧ i < (yfr (y.2.1.getD k.toNat yD)).length) → Q (.inl (some (.int (I ((yfr (y.2.1.getD k.toNat yD)).getD i.toNat 0))))) (x_vm g') n)) : x_V S 79 0 [some (.ref 2), some (.int (I k)), some (.int (I i)), none] [] (x_vm g) n Q := by
  have hs := x_shx hn.1
  have hn2 : n < x_NM := hn.2
  have hk2 := hk
  obtain ⟨k1, k2⟩ := hk
  have e92 := hZ.1.2.1.1
  have hi2 := hi
  obtain ⟨i1, i2⟩ := hi
  refine s79_0 rfl ?_
  refine s79_1 (by first | assumption | rfl) (by first | assumption | (exact hpo _) | rfl | decide) ?_
  refine s79_4 (by first | assumption | rfl) (by first | assumption | (exact hpo _) | rfl | decide) ?_
  refine s79_7 rfl ?_
  refine s79_8 (by first | assumption | rfl) (by simp) ?_
  refine c40 hk2 ⟨by omega, by omega⟩ ?_
  refine ⟨_, rfl, ?_⟩
  rw [e92]
  generalize ez : (if 0 ≤ k ∧ k < (y.2.1.length : Int) ∧ k < 20 then (1 : Int) else 0) = z
  have hz : (z = 0 ∧ ¬ (0 ≤ k ∧ k < y.2.1.length ∧ k < 20)) ∨ (z = 1 ∧ 0 ≤ k ∧ k < y.2.1.length ∧ k < 20) := by
    rw [← ez]
    split
    · exact Or.inr ⟨rfl, by assumption⟩
    · exact Or.inl ⟨rfl, by assumption⟩
  refine s79_11 ⟨by omega, by omega⟩ (fun h11 => ?_) (fun h11 => ?_)
  · refine s79_22 rfl ?_
    refine s79_23 (by first | assumption | rfl) (by first | assumption | (exact hpo _) | rfl | decide) ?_
    refine s79_26 (by first | assumption | rfl) (by first | assumption | (exact hpo _) | rfl | decide) ?_
    refine s79_29 rfl ?_
    refine s79_30 (by first | assumption | rfl) (by simp) ?_
    have hR := hR ⟨by omega, by omega, by omega⟩
    have hok := hok k.toNat (by omega) (by omega)
    obtain ⟨hm, hfr⟩ := ymok hZ.1.2.1 (k := k.toNat) (by omega) (by omega) hok
    have hZ1 := hZ.wr (yfr_by hok)
    have hF1 : zF g (x_rw 11 12 (yfr (y.2.1.getD k.toNat yD)) g) := zF.rw (by omega) (by omega)
    have e11 := x_rw_sz 11 12 (yfr (y.2.1.getD k.toNat yD)) g
    have e12 := fun (j : Nat) (hj : j < (yfr (y.2.1.getD k.toNat yD)).length) => x_rw_at (r := 11) (o := 12) (by omega) hj g
    rw [show (I k) = I ((k.toNat : Nat) : Int) by rw [show ((k.toNat : Nat) : Int) = k by omega]]
    refine c41 (k := k.toNat) ⟨by omega, by omega⟩ ⟨by omega, by omega⟩ hm hZ.2.2.2.1 ?_
    refine ⟨_, rfl, ?_⟩
    rw [hfr]
    generalize x_rw 11 12 (yfr (y.2.1.getD k.toNat yD)) g = g1 at hZ1 hF1 e11 e12 ⊢
    have hfl := yfr_len (y.2.1.getD k.toNat yD)
    generalize yfr (y.2.1.getD k.toNat yD) = f at hR e11 e12 hfl
    refine s79_33 ?_
    refine s79_34 rfl ?_
    refine s79_35 rfl ?_
    refine s79_36 (by first | assumption | rfl) (by simp) ?_
    refine c8 x_row11 hi2 ⟨by omega, by omega⟩ ?_
    refine ⟨_, rfl, ?_⟩
    rw [e11]
    generalize ew : (if 0 ≤ i ∧ i < (f.length : Int) then (1 : Int) else 0) = w
    have hw : (w = 0 ∧ ¬ (0 ≤ i ∧ i < f.length)) ∨ (w = 1 ∧ 0 ≤ i ∧ i < f.length) := by
      rw [← ew]
      split
      · exact Or.inr ⟨rfl, by assumption⟩
      · exact Or.inl ⟨rfl, by assumption⟩
    refine s79_39 ⟨by omega, by omega⟩ (fun h39 => ?_) (fun h39 => ?_)
    · refine s79_50 rfl ?_
      refine s79_51 rfl ?_
      refine s79_52 (by first | assumption | rfl) (by simp) ?_
      refine c9 x_row11 hi2 ⟨by omega, by omega⟩ ?_
      refine ⟨_, rfl, ?_⟩
      unfold x_atv
      rw [if_pos ⟨by omega, by omega⟩, e12 _ (by omega)]
      refine s79_55 (st := []) ?_
      exact (hR _ hZ1 hF1).2 (by omega)
    · refine s79_42 (by first | assumption | rfl) (by first | assumption | omega) (by simp) ?_
      exact (hR _ hZ1 hF1).1 (by omega)
  · refine s79_14 (by first | assumption | rfl) (by first | assumption | omega) (by simp) ?_
    exact hT (by omega)
def yses (y : yS) (w : Int) : Int := if w = 0 then y.1 3 else if w = 1 then y.1 4 else if w = 2 then y.1 5 else if w = 3 then (if y.1 6 = 0 then 0 else 1) else if w = 4 then y.1 7 else if w = 5 then y.2.2.2.1.length else y.1 8
theorem c80 {w : Int} (hZ : zC g y bs) (hB : yB B (yclr y)) (hw : ib w) (hn : 116 ≤ n ∧ n < 640) (hT : ¬ (0 ≤ w ∧ w ≤ 6) → Q (.inr 2) (x_vm g) (n + 1)) (hR : (0 ≤ w ∧ w ≤ 6) → Q (.inl (some (.int (I (yses y w))))) (x_vm g) n) : x_V S 80 0 [some (.ref 2), some (.int (I w))] [] (x_vm g) n Q := by
  have hs := x_shx hn.1
  have hn2 : n < x_NM := hn.2
  refine s80_0 rfl ?_
  by_cases q : 0 ≤ w ∧ w ≤ 6
  · have hR := hR q
    unfold yses at hR
    have e : w = 0 ∨ w = 1 ∨ w = 2 ∨ w = 3 ∨ w = 4 ∨ w = 5 ∨ w = 6 := by omega
    have e6 := hZ.1.1 6 (by omega) (by omega)
    have b6 : 0 ≤ y.1 6 ∧ y.1 6 ≤ B := hB.1 6 (by omega) (by omega)
    have bB := hB.2.2
    rcases e with e | e | e | e | e | e | e
    · rw [e] at hR ⊢
      refine x_tableIn (tgt := 44) (by decide) (by decide) (by rfl) (by rfl) d80_1 ?_
      refine s80_44 rfl ?_
      refine s80_45 (by first | assumption | rfl) (by first | assumption | (exact hpo _) | rfl | decide) ?_
      refine s80_48 (by first | assumption | rfl) (by first | assumption | (exact hpo _) | rfl | decide) (by first | assumption | decide | omega) ?_
      rw [hZ.1.1 3 (by omega) (by omega)]
      refine s80_51 (st := []) ?_
      exact hR
    · rw [e] at hR ⊢
      refine x_tableIn (tgt := 52) (by decide) (by decide) (by rfl) (by rfl) d80_1 ?_
      refine s80_52 rfl ?_
      refine s80_53 (by first | assumption | rfl) (by first | assumption | (exact hpo _) | rfl | decide) ?_
      refine s80_56 (by first | assumption | rfl) (by first | assumption | (exact hpo _) | rfl | decide) (by first | assumption | decide | omega) ?_
      rw [hZ.1.1 4 (by omega) (by omega)]
      refine s80_59 (st := []) ?_
      exact hR
    · rw [e] at hR ⊢
      refine x_tableIn (tgt := 60) (by decide) (by decide) (by rfl) (by rfl) d80_1 ?_
      refine s80_60 rfl ?_
      refine s80_61 (by first | assumption | rfl) (by first | assumption | (exact hpo _) | rfl | decide) ?_
      refine s80_64 (by first | assumption | rfl) (by first | assumption | (exact hpo _) | rfl | decide) (by first | assumption | decide | omega) ?_
      rw [hZ.1.1 5 (by omega) (by omega)]
      refine s80_67 (st := []) ?_
      exact hR
    · rw [e] at hR ⊢
      refine x_tableIn (tgt := 68) (by decide) (by decide) (by rfl) (by rfl) d80_1 ?_
      refine s80_68 rfl ?_
      refine s80_69 (by first | assumption | rfl) (by first | assumption | (exact hpo _) | rfl | decide) ?_
      refine s80_72 (by first | assumption | rfl) (by first | assumption | (exact hpo _) | rfl | decide) (by first | assumption | decide | omega) ?_
      rw [e6]
      refine s80_75 ⟨by omega, by omega⟩ (fun h75 => ?_) (fun h75 => ?_)
      · refine s80_82 ?_
        refine s80_83 (st := []) ?_
        rw [if_neg (by decide), if_neg (by decide), if_neg (by decide), if_pos rfl] at hR
        first
          | (rw [if_pos (show y.1 6 = 0 by omega)] at hR; exact hR)
          | (rw [if_neg (show ¬ y.1 6 = 0 by omega)] at hR; exact hR)
      · refine s80_78 ?_
        refine s80_79 ?_
        refine s80_83 (st := []) ?_
        rw [if_neg (by decide), if_neg (by decide), if_neg (by decide), if_pos rfl] at hR
        first
          | (rw [if_pos (show y.1 6 = 0 by omega)] at hR; exact hR)
          | (rw [if_neg (show ¬ y.1 6 = 0 by omega)] at hR; exact hR)
    · rw [e] at hR ⊢
      refine x_tableIn (tgt := 84) (by decide) (by decide) (by rfl) (by rfl) d80_1 ?_
      refine s80_84 rfl ?_
      refine s80_85 (by first | assumption | rfl) (by first | assumption | (exact hpo _) | rfl | decide) ?_
      refine s80_88 (by first | assumption | rfl) (by first | assumption | (exact hpo _) | rfl | decide) (by first | assumption | decide | omega) ?_
      rw [hZ.1.1 7 (by omega) (by omega)]
      refine s80_91 (st := []) ?_
      exact hR
    · rw [e] at hR ⊢
      refine x_tableIn (tgt := 92) (by decide) (by decide) (by rfl) (by rfl) d80_1 ?_
      refine s80_92 rfl ?_
      refine s80_93 (by first | assumption | rfl) (by first | assumption | (exact hpo _) | rfl | decide) ?_
      refine s80_96 (by first | assumption | rfl) (by first | assumption | (exact hpo _) | rfl | decide) ?_
      refine s80_99 (by first | assumption | rfl) (by first | assumption | (exact hpo _) | rfl | decide) (by first | assumption | decide | omega) ?_
      rw [hZ.1.2.2.2.1.1]
      refine s80_102 (st := []) ?_
      exact hR
    · rw [e] at hR ⊢
      refine x_tableIn (tgt := 103) (by decide) (by decide) (by rfl) (by rfl) d80_1 ?_
      refine s80_103 rfl ?_
      refine s80_104 (by first | assumption | rfl) (by first | assumption | (exact hpo _) | rfl | decide) ?_
      refine s80_107 (by first | assumption | rfl) (by first | assumption | (exact hpo _) | rfl | decide) (by first | assumption | decide | omega) ?_
      rw [hZ.1.1 8 (by omega) (by omega)]
      refine s80_110 (st := []) ?_
      exact hR
  · refine x_tableOut (tgt := 111) (by rw [I_toInt hw]; omega) (by rfl) d80_1 ?_
    refine s80_111 (by first | assumption | rfl) (by first | assumption | omega) (by simp) ?_
    exact hT q
def yordv (r : yR) (w : Int) : Int := if w = 0 then r.2.1 else if w = 1 then r.2.2.1 else if w = 2 then r.2.2.2.1 else yst r
theorem c81 {u w : Int} (hZ : zC g y bs) (hO : yO y) (hu : ib u) (hw : ib w) (hn : 116 ≤ n ∧ n < 640) (hT : yfind y.2.2.2.1 u = y.2.2.2.1.length → Q (.inr 3) (x_vm g) (n + 1))
    (hU : yfind y.2.2.2.1 u < y.2.2.2.1.length → ¬ (0 ≤ w ∧ w ≤ 3) → Q (.inr 2) (x_vm g) (n + 1)) (hR : yfind y.2.2.2.1 u < y.2.2.2.1.length → (0 ≤ w ∧ w ≤ 3) → Q (.inl (some (.int (I (yordv (y.2.2.2.1.getD (yfind y.2.2.2.1 u) yE) w))))) (x_vm g) n) : x_V S 81 0 [some (.ref 2), some (.int (I u)), some (.int (I w)), none] [] (x_vm g) n Q := by
  have hs := x_shx hn.1
  have hn2 : n < x_NM := hn.2
  have h40 := hZ.1.2.2.2.1.2.1
  refine s81_0 rfl ?_
  refine s81_1 rfl rfl ?_
  refine s81_4 rfl rfl ?_
  refine s81_7 rfl ?_
  refine s81_8 rfl (by simp) ?_
  refine c47y hZ.1 hO hu (fun hk _ => ?_) (fun hk => ?_)
  · refine ⟨_, rfl, ?_⟩
    have hU := hU hk
    have hR := hR hk
    generalize ek : yfind y.2.2.2.1 u = k at hk hU hR
    have ho := x_ordi (i := k) (by omega)
    have ho1 := ho.1
    have hpo := ho.2.1
    have ho2 := ho.2.2
    have qa := hZ.1.2.2.2.1.at hk
    have hb := hO.1 k hk
    generalize er : y.2.2.2.1.getD k yE = r at qa hb hR
    obtain ⟨r0, r1, r2, r3, r4⟩ := r
    obtain ⟨a0, a1, a2, a3, a4⟩ := qa
    simp only at a0 a1 a2 a3 a4 hb hR
    refine s81_11 ?_
    refine s81_12 rfl ?_
    refine s81_13 ?_
    refine s81_24 rfl ?_
    skip
    by_cases q : 0 ≤ w ∧ w ≤ 3
    · have hR := hR q
      unfold yordv yst at hR
      have e : w = 0 ∨ w = 1 ∨ w = 2 ∨ w = 3 := by omega
      rcases e with e | e | e | e
      · rw [e] at hR ⊢
        refine x_tableIn (tgt := 56) (by decide) (by decide) (by rfl) (by rfl) d81_25 ?_
        refine s81_56 rfl ?_
        refine s81_57 (by first | assumption | rfl) (by first | assumption | (exact hpo _) | rfl | decide) (by first | assumption | decide | omega) ?_
        rw [a1]
        refine s81_60 (st := []) ?_
        exact hR
      · rw [e] at hR ⊢
        refine x_tableIn (tgt := 61) (by decide) (by decide) (by rfl) (by rfl) d81_25 ?_
        refine s81_61 rfl ?_
        refine s81_62 (by first | assumption | rfl) (by first | assumption | (exact hpo _) | rfl | decide) (by first | assumption | decide | omega) ?_
        rw [a2]
        refine s81_65 (st := []) ?_
        exact hR
      · rw [e] at hR ⊢
        refine x_tableIn (tgt := 66) (by decide) (by decide) (by rfl) (by rfl) d81_25 ?_
        refine s81_66 rfl ?_
        refine s81_67 (by first | assumption | rfl) (by first | assumption | (exact hpo _) | rfl | decide) (by first | assumption | decide | omega) ?_
        rw [a3]
        refine s81_70 (st := []) ?_
        exact hR
      · rw [e] at hR ⊢
        refine x_tableIn (tgt := 71) (by decide) (by decide) (by rfl) (by rfl) d81_25 ?_
        refine s81_71 rfl ?_
        refine s81_72 (by first | assumption | rfl) (by simp) ?_
        refine c20 ho ⟨by omega, by omega⟩ ⟨by omega, by omega⟩ ⟨by omega, by omega⟩ ?_
        refine ⟨_, rfl, ?_⟩
        rw [a2, a3, a4]
        refine s81_75 (st := []) ?_
        exact hR
    · refine x_tableOut (tgt := 76) (by rw [I_toInt hw]; omega) (by rfl) d81_25 ?_
      refine s81_76 (by first | assumption | rfl) (by first | assumption | omega) (by simp) ?_
      exact hU q
  · refine ⟨_, rfl, ?_⟩
    refine s81_11N ?_
    refine s81_12N rfl ?_
    refine s81_13N ?_
    refine s81_16 (by first | assumption | rfl) (by first | assumption | omega) (by simp) ?_
    exact hT hk
end CN
