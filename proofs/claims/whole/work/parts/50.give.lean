/-! 50.give: the reference's give and add. -/
section MG
variable {S : Nat × (Nat → Int32)} {μ : xM} {g : Nat → Nat → Int} {n : Nat} {Q : xQ} {y : yS} {B : Int} {bs : List Int}
theorem c105 {x : Int} (hZ : sC g y bs) (hx : ib x)
    (hT : ¬ (0 ≤ x ∧ x ≤ 127) → ∀ g', sC g' y bs → sF g g' → g' 100 0 = 1 → Q (.inl (some (.int (I 0)))) (x_vm g') n)
    (hU : (0 ≤ x ∧ x ≤ 127) → 120 ≤ bs.length → ∀ g', sC g' y bs → sF g g' → g' 100 0 = 2 → Q (.inl (some (.int (I 0)))) (x_vm g') n)
    (hR : (0 ≤ x ∧ x ≤ 127) → bs.length < 120 → ∀ g', sC g' (yclr y) (bs ++ [x]) → sF g g' → g' 100 0 = 0 → Q (.inl (some (.int (I (bs.length + 1))))) (x_vm g') n) : x_V S 105 0 [some (.ref 100), some (.int (I x)), none] [] (x_vm g) n Q := by
  obtain ⟨x1, x2⟩ := hx
  have hth := fun c : Int => hZ.thr (c := c)
  have hZ0 := hZ.th0
  have hF0 : sF g (x_uf g 100 0 0) := sF.u
  have hF1 : ∀ c : Int, sF g (x_uf (x_uf g 100 0 0) 100 0 c) := fun c => sF.u.tr sF.u
  have v1 : ∀ c : Int, x_uf (x_uf g 100 0 0) 100 0 c 100 0 = c := fun c => x_uf_eq _ _ _ _
  have v0 : x_uf g 100 0 0 100 0 = 0 := x_uf_eq _ _ _ _
  refine s105_0 rfl ?_
  refine s105_1 ?_
  refine s105_2 rfl rfl (by decide) ?_
  generalize x_uf g 100 0 0 = g1 at hth hZ0 hF0 hF1 v1 v0 ⊢
  obtain ⟨hC, d1, d2, d3, d4⟩ := hZ0
  have e1 : (g1 100 1 = 0 ∧ bs = []) ∨ (g1 100 1 = 1 ∧ bs ≠ [] ∧ g1 100 2 = bs.length) := by
    by_cases c : bs = []
    · left; rw [d1, if_pos c]; exact ⟨rfl, c⟩
    · right; rw [d1, if_neg c]; exact ⟨rfl, c, (d2 c).1⟩
  have main : (0 ≤ x ∧ x ≤ 127) → x_V S 105 36 [some (.ref 100), some (.int (I x)), none] [.int (I (bs.length : Int))] (x_vm g1) n Q := by
    intro hxx
    have b1 : ∀ i, i < bs.length → g1 101 i = bs.getD i 0 := fun i hi => (d2 (fun z => by rw [z] at hi; exact Nat.not_lt_zero _ hi)).2 i hi
    refine s105_36 ?_
    refine s105_37 rfl ?_
    refine s105_38 ?_
    refine s105_40 ⟨by omega, by omega⟩ ⟨by omega, by omega⟩ (fun h40 => ?_) (fun h40 => ?_)
    · refine s105_49 rfl ?_
      refine s105_50 ?_
      refine s105_51 (by first | assumption | rfl) (by omega) (by first | assumption | (exact hpo _) | rfl | decide) (by first | assumption | decide | omega) ?_
      refine s105_54 rfl ?_
      refine s105_55 (by first | assumption | rfl) (by first | assumption | (exact hpo _) | rfl | decide) ?_
      refine s105_58 rfl ?_
      refine s105_59 rfl ?_
      refine v_iast d105_60 (by first | assumption | rfl) (by omega) (by omega) (by omega) (by first | assumption | (exact hpo _) | rfl | decide) (by first | assumption | decide | omega) ?_
      rw [Int.toNat_natCast]
      refine s105_61 rfl ?_
      refine s105_62 rfl ?_
      refine s105_63 ?_
      refine s105_64 ?_
      refine s105_65 (by first | assumption | rfl) (by first | assumption | (exact hpo _) | rfl | decide) (by first | assumption | decide | omega) ?_
      refine s105_68 rfl ?_
      refine s105_69 ?_
      refine s105_70 (by first | assumption | rfl) (by first | assumption | (exact hpo _) | rfl | decide) (by first | assumption | decide | omega) ?_
      refine s105_73 rfl ?_
      refine s105_74 (by first | assumption | rfl) (by first | assumption | (exact hpo _) | rfl | decide) (by first | assumption | decide | omega) ?_
      rw [show x_uf (x_uf (x_uf (x_uf g1 100 1 1) 101 bs.length x) 100 2 ((bs.length : Int) + 1)) 100 15 0 100 2 = (bs.length : Int) + 1 by rw [x_uf_ne (by omega), x_uf_eq]]
      refine s105_77 (st := []) ?_
      refine hR hxx (by omega) _ ⟨(hC.fr (fun a j q => by rw [x_uf_ne (by omega), x_uf_ne (by omega), x_uf_ne (by omega)])).clr, ?_, ?_, ?_, ?_⟩ (hF0.tr (fun a j q => by rw [x_uf_ne (by omega), x_uf_ne (by omega), x_uf_ne (by omega), x_uf_ne (by omega)])) (by rw [x_uf_ne (by omega), x_uf_ne (by omega), x_uf_ne (by omega), x_uf_ne (by omega)]; exact v0)
      · rw [x_uf_ne (by omega), x_uf_ne (by omega), x_uf_ne (by omega), x_uf_eq, if_neg (by simp)]
      · refine fun _ => ⟨by rw [x_uf_ne (by omega), x_uf_eq, ylen_app]; rfl, fun j hj => ?_⟩
        rw [ylen_app] at hj
        rw [ygd_app, x_uf_ne (by omega), x_uf_ne (by omega)]
        by_cases c : j < bs.length
        · rw [if_pos c, x_uf_ne (by omega), x_uf_ne (by omega)]; exact b1 j c
        · rw [if_neg c, if_pos (by omega), show j = bs.length by omega, x_uf_eq]
      · rw [ylen_app]; omega
      · exact x_by_app d4 (x_by_1 hxx)
    · refine s105_43 rfl ?_
      refine s105_44 ?_
      refine s105_45 (by first | assumption | rfl) (by simp) ?_
      refine c85 ?_
      refine ⟨_, rfl, ?_⟩
      refine s105_48 (st := []) ?_
      exact hU hxx (by omega) _ (hth 2) (hF1 2) (v1 2)
  refine s105_5 rfl ?_
  refine s105_6 ?_
  refine s105_7 ?_
  refine s105_9 (by simp) ?_
  refine c86 ⟨by omega, by omega⟩ ⟨by omega, by omega⟩ ⟨by omega, by omega⟩ ?_
  refine ⟨_, rfl, ?_⟩
  generalize ezw : (if 0 ≤ x ∧ x ≤ 127 then (1 : Int) else 0) = zzw
  have hzw : (zzw = 0 ∧ ¬ (0 ≤ x ∧ x ≤ 127)) ∨ (zzw = 1 ∧ 0 ≤ x ∧ x ≤ 127) := by
    rw [← ezw]
    split
    · exact Or.inr ⟨rfl, by assumption⟩
    · exact Or.inl ⟨rfl, by assumption⟩
  refine s105_12 ⟨by omega, by omega⟩ (fun h12 => ?_) (fun h12 => ?_)
  · refine s105_21 rfl ?_
    refine s105_22 (by first | assumption | rfl) (by first | assumption | (exact hpo _) | rfl | decide) (by first | assumption | decide | omega) ?_
    refine s105_25 ⟨by omega, by omega⟩ (fun h25 => ?_) (fun h25 => ?_)
    · refine s105_35 ?_
      first
        | (rcases e1 with q | q
           · exact absurd q.1 (by omega)
           · rw [q.2.2]; exact main (by omega))
        | (rcases e1 with q | q
           · have := main (by omega)
             rw [q.2] at this
             exact this
           · exact absurd q.1 (by omega))
    · refine s105_28 rfl ?_
      refine s105_29 (by first | assumption | rfl) (by first | assumption | (exact hpo _) | rfl | decide) (by first | assumption | decide | omega) ?_
      refine s105_32 ?_
      first
        | (rcases e1 with q | q
           · exact absurd q.1 (by omega)
           · rw [q.2.2]; exact main (by omega))
        | (rcases e1 with q | q
           · have := main (by omega)
             rw [q.2] at this
             exact this
           · exact absurd q.1 (by omega))
  · refine s105_15 rfl ?_
    refine s105_16 ?_
    refine s105_17 (by first | assumption | rfl) (by simp) ?_
    refine c85 ?_
    refine ⟨_, rfl, ?_⟩
    refine s105_20 (st := []) ?_
    exact hT (by omega) _ (hth 1) (hF1 1) (v1 1)
theorem c103 {t m d a b c : Int} (hZ : sC g y bs) (hlen : y.2.1.length ≤ 1000000) (ht : ib t) (hm : ib m) (ha : ib a) (hb : ib b) (hc : ib c) (hd : d = 0 ∨ d = 1)
    (hT : ¬ (zpeer t ∧ (0 ≤ m ∧ m ≤ 999999) ∧ (0 ≤ a ∧ a ≤ 999999) ∧ (0 ≤ b ∧ b ≤ 999999) ∧ (0 ≤ c ∧ c ≤ 999999)) → ∀ g', sC g' y bs → sF g g' → g' 100 0 = 1 → Q (.inl (some (.int (I 0)))) (x_vm g') n)
    (hR : (zpeer t ∧ (0 ≤ m ∧ m ≤ 999999) ∧ (0 ≤ a ∧ a ≤ 999999) ∧ (0 ≤ b ∧ b ≤ 999999) ∧ (0 ≤ c ∧ c ≤ 999999)) → ∀ g', sC g' (yclr y) (yfr (t, m, d, (if t = 48 ∧ a = 0 then -1 else a), b, c, 0)) → sF g g' → g' 100 0 = 0 → Q (.inl (some (.int (I (yfr (t, m, d, (if t = 48 ∧ a = 0 then -1 else a), b, c, 0)).length)))) (x_vm g') n) : x_V S 103 0 [some (.ref 100), some (.int (I t)), some (.int (I m)), some (.int (I d)), some (.int (I a)), some (.int (I b)), some (.int (I c))] [] (x_vm g) n Q := by
  have ht2 := ht
  obtain ⟨t1, t2⟩ := ht
  obtain ⟨m1, m2⟩ := hm
  obtain ⟨a1, a2⟩ := ha
  obtain ⟨b1, b2⟩ := hb
  obtain ⟨k1, k2⟩ := hc
  have hth := fun c : Int => hZ.thr (c := c)
  have hZ0 := hZ.th0
  have hF0 : sF g (x_uf g 100 0 0) := sF.u
  have hF1 : ∀ c : Int, sF g (x_uf (x_uf g 100 0 0) 100 0 c) := fun c => sF.u.tr sF.u
  have v1 : ∀ c : Int, x_uf (x_uf g 100 0 0) 100 0 c 100 0 = c := fun c => x_uf_eq _ _ _ _
  have v0 : x_uf g 100 0 0 100 0 = 0 := x_uf_eq _ _ _ _
  refine s103_0 rfl ?_
  refine s103_1 ?_
  refine s103_2 rfl rfl (by decide) ?_
  generalize x_uf g 100 0 0 = g1 at hth hZ0 hF0 hF1 v1 v0 ⊢
  obtain ⟨hC, d1, d2, d3, d4⟩ := hZ0
  have k15 := hC.2.1.1
  have fin : (zpeer t ∧ (0 ≤ m ∧ m ≤ 999999) ∧ (0 ≤ a ∧ a ≤ 999999) ∧ (0 ≤ b ∧ b ≤ 999999) ∧ (0 ≤ c ∧ c ≤ 999999)) → ∀ p q : Int, p = (if t = 48 ∧ a = 0 then -1 else a) → q = mq t b → x_V S 103 110 [some (.ref 100), some (.int (I t)), some (.int (I m)), some (.int (I d)), some (.int (I a)), some (.int (I b)), some (.int (I c))] [.int (I q), .int (I p), .int (I d), .int (I m), .int (I t), .ref 100] (x_vm (x_uf g1 100 38 1)) n Q := by
    intro hg p q ep eq
    have hR := hR hg
    obtain ⟨g1', g2, g3, g4, g5⟩ := hg
    have htb : 48 ≤ t ∧ t ≤ 71 ∧ t ≠ 56 := by omega
    rw [← ep] at hR
    have hp : -1 ≤ p ∧ p ≤ 999999 := by rw [ep]; split <;> omega
    have hp2 : t ≠ 48 → 0 ≤ p := fun z => by rw [ep, if_neg (by omega)]; omega
    have hk : rok (t, m, d, p, b, c, 0) := ⟨⟨(show 0 ≤ t ∧ t ≤ 127 by omega), g2, hd, hp, (show -1 ≤ b ∧ b ≤ 999999 by omega), (show -1 ≤ c ∧ c ≤ 999999 by omega), (show (-1 : Int) ≤ 0 ∧ (0 : Int) ≤ 999999 by omega), fun e => absurd e htb.2.2⟩, (show xty t by omega), hp2, g4.1, g5.1, Int.le_refl 0⟩
    have hM : mM (x_uf g1 100 38 1) true y.2.1.length := ⟨by rw [x_uf_eq]; rfl, by rw [x_uf_ne (by omega)]; exact k15, hlen⟩
    have hfl := yfr_len (t, m, d, p, b, c, 0)
    have hfb := yfr_by hk.1
    have hfn := yfr_ne (t, m, d, p, b, c, 0)
    rw [eq]
    refine s103_110 rfl ?_
    refine s103_112 ?_
    refine s103_113 (by first | assumption | rfl) (by simp) ?_
    refine c96 hM hk ?_
    refine ⟨_, rfl, ?_⟩
    generalize yfr (t, m, d, p, b, c, 0) = F at hR hfl hfb hfn
    unfold rg
    rw [if_pos (show true = true from rfl)]
    have w1 : ∀ a i, a ≠ 101 → ¬ (a = 100 ∧ (i = 2 ∨ i = 18 ∨ i = 38)) → mw true y.2.1.length F (x_uf (x_uf g1 100 38 1) 100 18 0) a i = g1 a i := fun a i q1 q2 => by rw [mwt, if_neg (by omega), if_neg (by omega), x_uf_ne (by omega), x_uf_ne (by omega)]
    have w2 : mw true y.2.1.length F (x_uf (x_uf g1 100 38 1) 100 18 0) 100 2 = F.length := by rw [mwt, if_pos ⟨rfl, rfl⟩]
    have w3 : ∀ i, i < F.length → mw true y.2.1.length F (x_uf (x_uf g1 100 38 1) 100 18 0) 101 i = F.getD i 0 := fun i hi => by rw [mwt, if_neg (by omega), if_pos ⟨rfl, hi⟩]
    generalize mw true y.2.1.length F (x_uf (x_uf g1 100 38 1) 100 18 0) = g3 at w1 w2 w3
    refine s103_116 rfl ?_
    refine s103_117 ?_
    refine s103_118 (by first | assumption | rfl) (by omega) (by first | assumption | (exact hpo _) | rfl | decide) (by first | assumption | decide | omega) ?_
    refine s103_121 rfl ?_
    refine s103_122 ?_
    refine s103_123 (by first | assumption | rfl) (by omega) (by first | assumption | (exact hpo _) | rfl | decide) (by first | assumption | decide | omega) ?_
    refine s103_126 rfl ?_
    refine s103_127 ?_
    refine s103_128 (by first | assumption | rfl) (by first | assumption | (exact hpo _) | rfl | decide) (by first | assumption | decide | omega) ?_
    refine s103_131 rfl ?_
    refine s103_132 (by first | assumption | rfl) (by first | assumption | (exact hpo _) | rfl | decide) (by first | assumption | decide | omega) ?_
    rw [show x_uf (x_uf (x_uf g3 100 38 0) 100 1 1) 100 15 0 100 2 = F.length by rw [x_uf_ne (by omega), x_uf_ne (by omega), x_uf_ne (by omega)]; exact w2]
    refine s103_135 (st := []) ?_
    refine hR _ ⟨(hC.fr (fun a j q => by rw [x_uf_ne (by omega), x_uf_ne (by omega)]; exact w1 _ _ (by omega) (by omega))).clr, ?_, ?_, by omega, hfb⟩ (hF0.tr (fun a j q => by rw [x_uf_ne (by omega), x_uf_ne (by omega), x_uf_ne (by omega)]; exact w1 _ _ (by omega) (by omega))) (by rw [x_uf_ne (by omega), x_uf_ne (by omega), x_uf_ne (by omega)]; exact (w1 _ _ (by omega) (by omega)).trans v0)
    · rw [x_uf_ne (by omega), x_uf_eq, if_neg hfn]
    · exact fun _ => ⟨by rw [x_uf_ne (by omega), x_uf_ne (by omega), x_uf_ne (by omega)]; exact w2, fun j hj => by rw [x_uf_ne (by omega), x_uf_ne (by omega), x_uf_ne (by omega)]; exact w3 j hj⟩
  refine s103_5 rfl ?_
  refine s103_6 (by simp) ?_
  refine c102 ht2 ?_
  refine ⟨_, rfl, ?_⟩
  generalize ezt : (if zpeer t then (1 : Int) else 0) = zzt
  have hzt : (zzt = 0 ∧ ¬ zpeer t) ∨ (zzt = 1 ∧ zpeer t) := by
    rw [← ezt]
    split
    · exact Or.inr ⟨rfl, by assumption⟩
    · exact Or.inl ⟨rfl, by assumption⟩
  refine s103_9 ⟨by omega, by omega⟩ (fun h9 => ?_) (fun h9 => ?_)
  · refine s103_55 rfl ?_
    refine s103_56 ?_
    refine s103_57 (by first | assumption | rfl) (by simp) ?_
    refine c85 ?_
    refine ⟨_, rfl, ?_⟩
    refine s103_60 (st := []) ?_
    exact hT (fun q => by omega) _ (hth 1) (hF1 1) (v1 1)
  · refine s103_12 rfl ?_
    refine s103_13 ?_
    refine s103_14 ?_
    refine s103_16 (by simp) ?_
    refine c86 ⟨by omega, by omega⟩ ⟨by omega, by omega⟩ ⟨by omega, by omega⟩ ?_
    refine ⟨_, rfl, ?_⟩
    generalize ezm : (if 0 ≤ m ∧ m ≤ 999999 then (1 : Int) else 0) = zzm
    have hzm : (zzm = 0 ∧ ¬ (0 ≤ m ∧ m ≤ 999999)) ∨ (zzm = 1 ∧ 0 ≤ m ∧ m ≤ 999999) := by
      rw [← ezm]
      split
      · exact Or.inr ⟨rfl, by assumption⟩
      · exact Or.inl ⟨rfl, by assumption⟩
    refine s103_19 ⟨by omega, by omega⟩ (fun h19 => ?_) (fun h19 => ?_)
    · refine s103_55 rfl ?_
      refine s103_56 ?_
      refine s103_57 (by first | assumption | rfl) (by simp) ?_
      refine c85 ?_
      refine ⟨_, rfl, ?_⟩
      refine s103_60 (st := []) ?_
      exact hT (fun q => by omega) _ (hth 1) (hF1 1) (v1 1)
    · refine s103_22 rfl ?_
      refine s103_24 ?_
      refine s103_25 ?_
      refine s103_27 (by simp) ?_
      refine c86 ⟨by omega, by omega⟩ ⟨by omega, by omega⟩ ⟨by omega, by omega⟩ ?_
      refine ⟨_, rfl, ?_⟩
      generalize eza : (if 0 ≤ a ∧ a ≤ 999999 then (1 : Int) else 0) = zza
      have hza : (zza = 0 ∧ ¬ (0 ≤ a ∧ a ≤ 999999)) ∨ (zza = 1 ∧ 0 ≤ a ∧ a ≤ 999999) := by
        rw [← eza]
        split
        · exact Or.inr ⟨rfl, by assumption⟩
        · exact Or.inl ⟨rfl, by assumption⟩
      refine s103_30 ⟨by omega, by omega⟩ (fun h30 => ?_) (fun h30 => ?_)
      · refine s103_55 rfl ?_
        refine s103_56 ?_
        refine s103_57 (by first | assumption | rfl) (by simp) ?_
        refine c85 ?_
        refine ⟨_, rfl, ?_⟩
        refine s103_60 (st := []) ?_
        exact hT (fun q => by omega) _ (hth 1) (hF1 1) (v1 1)
      · refine s103_33 rfl ?_
        refine s103_35 ?_
        refine s103_36 ?_
        refine s103_38 (by simp) ?_
        refine c86 ⟨by omega, by omega⟩ ⟨by omega, by omega⟩ ⟨by omega, by omega⟩ ?_
        refine ⟨_, rfl, ?_⟩
        generalize ezb : (if 0 ≤ b ∧ b ≤ 999999 then (1 : Int) else 0) = zzb
        have hzb : (zzb = 0 ∧ ¬ (0 ≤ b ∧ b ≤ 999999)) ∨ (zzb = 1 ∧ 0 ≤ b ∧ b ≤ 999999) := by
          rw [← ezb]
          split
          · exact Or.inr ⟨rfl, by assumption⟩
          · exact Or.inl ⟨rfl, by assumption⟩
        refine s103_41 ⟨by omega, by omega⟩ (fun h41 => ?_) (fun h41 => ?_)
        · refine s103_55 rfl ?_
          refine s103_56 ?_
          refine s103_57 (by first | assumption | rfl) (by simp) ?_
          refine c85 ?_
          refine ⟨_, rfl, ?_⟩
          refine s103_60 (st := []) ?_
          exact hT (fun q => by omega) _ (hth 1) (hF1 1) (v1 1)
        · refine s103_44 rfl ?_
          refine s103_46 ?_
          refine s103_47 ?_
          refine s103_49 (by simp) ?_
          refine c86 ⟨by omega, by omega⟩ ⟨by omega, by omega⟩ ⟨by omega, by omega⟩ ?_
          refine ⟨_, rfl, ?_⟩
          generalize ezc : (if 0 ≤ c ∧ c ≤ 999999 then (1 : Int) else 0) = zzc
          have hzc : (zzc = 0 ∧ ¬ (0 ≤ c ∧ c ≤ 999999)) ∨ (zzc = 1 ∧ 0 ≤ c ∧ c ≤ 999999) := by
            rw [← ezc]
            split
            · exact Or.inr ⟨rfl, by assumption⟩
            · exact Or.inl ⟨rfl, by assumption⟩
          refine s103_52 ⟨by omega, by omega⟩ (fun h52 => ?_) (fun h52 => ?_)
          · refine s103_61 rfl ?_
            refine s103_62 ?_
            refine s103_63 (by first | assumption | rfl) (by omega) (by first | assumption | (exact hpo _) | rfl | decide) (by first | assumption | decide | omega) ?_
            refine s103_66 rfl ?_
            refine s103_67 rfl ?_
            refine s103_68 rfl ?_
            refine s103_69 rfl ?_
            refine s103_70 rfl ?_
            refine s103_71 ?_
            refine s103_73 ⟨by omega, by omega⟩ ⟨by omega, by omega⟩ (fun h73 => ?_) (fun h73 => ?_)
            · refine s103_85 rfl ?_
              refine s103_87 rfl ?_
              refine s103_88 ?_
              refine s103_90 ⟨by omega, by omega⟩ ⟨by omega, by omega⟩ (fun h90 => ?_) (fun h90 => ?_)
              · refine s103_108 rfl ?_
                have hg : zpeer t ∧ (0 ≤ m ∧ m ≤ 999999) ∧ (0 ≤ a ∧ a ≤ 999999) ∧ (0 ≤ b ∧ b ≤ 999999) ∧ (0 ≤ c ∧ c ≤ 999999) := ⟨by omega, by omega, by omega, by omega, by omega⟩
                first
                  | (exfalso; omega)
                  | exact fin hg _ _ (if_pos ⟨by omega, by omega⟩).symm (by unfold mq; first | rw [if_pos (by omega), if_pos (by omega)] | rw [if_pos (by omega), if_neg (by omega)] | rw [if_neg (by omega)])
                  | exact fin hg _ _ (if_neg (fun q => by omega)).symm (by unfold mq; first | rw [if_pos (by omega), if_pos (by omega)] | rw [if_pos (by omega), if_neg (by omega)] | rw [if_neg (by omega)])
                  | (exfalso; omega)
              · refine s103_93 rfl ?_
                refine s103_95 ⟨by omega, by omega⟩ (fun h95 => ?_) (fun h95 => ?_)
                · refine s103_103 ?_
                  refine s103_105 ?_
                  have hg : zpeer t ∧ (0 ≤ m ∧ m ≤ 999999) ∧ (0 ≤ a ∧ a ≤ 999999) ∧ (0 ≤ b ∧ b ≤ 999999) ∧ (0 ≤ c ∧ c ≤ 999999) := ⟨by omega, by omega, by omega, by omega, by omega⟩
                  first
                    | (exfalso; omega)
                    | exact fin hg _ _ (if_pos ⟨by omega, by omega⟩).symm (by unfold mq; first | rw [if_pos (by omega), if_pos (by omega)] | rw [if_pos (by omega), if_neg (by omega)] | rw [if_neg (by omega)])
                    | exact fin hg _ _ (if_neg (fun q => by omega)).symm (by unfold mq; first | rw [if_pos (by omega), if_pos (by omega)] | rw [if_pos (by omega), if_neg (by omega)] | rw [if_neg (by omega)])
                    | (exfalso; omega)
                · refine s103_98 ?_
                  refine s103_100 ?_
                  have hg : zpeer t ∧ (0 ≤ m ∧ m ≤ 999999) ∧ (0 ≤ a ∧ a ≤ 999999) ∧ (0 ≤ b ∧ b ≤ 999999) ∧ (0 ≤ c ∧ c ≤ 999999) := ⟨by omega, by omega, by omega, by omega, by omega⟩
                  first
                    | (exfalso; omega)
                    | exact fin hg _ _ (if_pos ⟨by omega, by omega⟩).symm (by unfold mq; first | rw [if_pos (by omega), if_pos (by omega)] | rw [if_pos (by omega), if_neg (by omega)] | rw [if_neg (by omega)])
                    | exact fin hg _ _ (if_neg (fun q => by omega)).symm (by unfold mq; first | rw [if_pos (by omega), if_pos (by omega)] | rw [if_pos (by omega), if_neg (by omega)] | rw [if_neg (by omega)])
                    | (exfalso; omega)
            · refine s103_76 rfl ?_
              refine s103_78 ⟨by omega, by omega⟩ (fun h78 => ?_) (fun h78 => ?_)
              · refine s103_85 rfl ?_
                refine s103_87 rfl ?_
                refine s103_88 ?_
                refine s103_90 ⟨by omega, by omega⟩ ⟨by omega, by omega⟩ (fun h90 => ?_) (fun h90 => ?_)
                · refine s103_108 rfl ?_
                  have hg : zpeer t ∧ (0 ≤ m ∧ m ≤ 999999) ∧ (0 ≤ a ∧ a ≤ 999999) ∧ (0 ≤ b ∧ b ≤ 999999) ∧ (0 ≤ c ∧ c ≤ 999999) := ⟨by omega, by omega, by omega, by omega, by omega⟩
                  first
                    | (exfalso; omega)
                    | exact fin hg _ _ (if_pos ⟨by omega, by omega⟩).symm (by unfold mq; first | rw [if_pos (by omega), if_pos (by omega)] | rw [if_pos (by omega), if_neg (by omega)] | rw [if_neg (by omega)])
                    | exact fin hg _ _ (if_neg (fun q => by omega)).symm (by unfold mq; first | rw [if_pos (by omega), if_pos (by omega)] | rw [if_pos (by omega), if_neg (by omega)] | rw [if_neg (by omega)])
                    | (exfalso; omega)
                · refine s103_93 rfl ?_
                  refine s103_95 ⟨by omega, by omega⟩ (fun h95 => ?_) (fun h95 => ?_)
                  · refine s103_103 ?_
                    refine s103_105 ?_
                    have hg : zpeer t ∧ (0 ≤ m ∧ m ≤ 999999) ∧ (0 ≤ a ∧ a ≤ 999999) ∧ (0 ≤ b ∧ b ≤ 999999) ∧ (0 ≤ c ∧ c ≤ 999999) := ⟨by omega, by omega, by omega, by omega, by omega⟩
                    first
                      | (exfalso; omega)
                      | exact fin hg _ _ (if_pos ⟨by omega, by omega⟩).symm (by unfold mq; first | rw [if_pos (by omega), if_pos (by omega)] | rw [if_pos (by omega), if_neg (by omega)] | rw [if_neg (by omega)])
                      | exact fin hg _ _ (if_neg (fun q => by omega)).symm (by unfold mq; first | rw [if_pos (by omega), if_pos (by omega)] | rw [if_pos (by omega), if_neg (by omega)] | rw [if_neg (by omega)])
                      | (exfalso; omega)
                  · refine s103_98 ?_
                    refine s103_100 ?_
                    have hg : zpeer t ∧ (0 ≤ m ∧ m ≤ 999999) ∧ (0 ≤ a ∧ a ≤ 999999) ∧ (0 ≤ b ∧ b ≤ 999999) ∧ (0 ≤ c ∧ c ≤ 999999) := ⟨by omega, by omega, by omega, by omega, by omega⟩
                    first
                      | (exfalso; omega)
                      | exact fin hg _ _ (if_pos ⟨by omega, by omega⟩).symm (by unfold mq; first | rw [if_pos (by omega), if_pos (by omega)] | rw [if_pos (by omega), if_neg (by omega)] | rw [if_neg (by omega)])
                      | exact fin hg _ _ (if_neg (fun q => by omega)).symm (by unfold mq; first | rw [if_pos (by omega), if_pos (by omega)] | rw [if_pos (by omega), if_neg (by omega)] | rw [if_neg (by omega)])
                      | (exfalso; omega)
              · refine s103_81 ?_
                refine s103_82 ?_
                refine s103_87 rfl ?_
                refine s103_88 ?_
                refine s103_90 ⟨by omega, by omega⟩ ⟨by omega, by omega⟩ (fun h90 => ?_) (fun h90 => ?_)
                · refine s103_108 rfl ?_
                  have hg : zpeer t ∧ (0 ≤ m ∧ m ≤ 999999) ∧ (0 ≤ a ∧ a ≤ 999999) ∧ (0 ≤ b ∧ b ≤ 999999) ∧ (0 ≤ c ∧ c ≤ 999999) := ⟨by omega, by omega, by omega, by omega, by omega⟩
                  first
                    | (exfalso; omega)
                    | exact fin hg _ _ (if_pos ⟨by omega, by omega⟩).symm (by unfold mq; first | rw [if_pos (by omega), if_pos (by omega)] | rw [if_pos (by omega), if_neg (by omega)] | rw [if_neg (by omega)])
                    | exact fin hg _ _ (if_neg (fun q => by omega)).symm (by unfold mq; first | rw [if_pos (by omega), if_pos (by omega)] | rw [if_pos (by omega), if_neg (by omega)] | rw [if_neg (by omega)])
                    | (exfalso; omega)
                · refine s103_93 rfl ?_
                  refine s103_95 ⟨by omega, by omega⟩ (fun h95 => ?_) (fun h95 => ?_)
                  · refine s103_103 ?_
                    refine s103_105 ?_
                    have hg : zpeer t ∧ (0 ≤ m ∧ m ≤ 999999) ∧ (0 ≤ a ∧ a ≤ 999999) ∧ (0 ≤ b ∧ b ≤ 999999) ∧ (0 ≤ c ∧ c ≤ 999999) := ⟨by omega, by omega, by omega, by omega, by omega⟩
                    first
                      | (exfalso; omega)
                      | exact fin hg _ _ (if_pos ⟨by omega, by omega⟩).symm (by unfold mq; first | rw [if_pos (by omega), if_pos (by omega)] | rw [if_pos (by omega), if_neg (by omega)] | rw [if_neg (by omega)])
                      | exact fin hg _ _ (if_neg (fun q => by omega)).symm (by unfold mq; first | rw [if_pos (by omega), if_pos (by omega)] | rw [if_pos (by omega), if_neg (by omega)] | rw [if_neg (by omega)])
                      | (exfalso; omega)
                  · refine s103_98 ?_
                    refine s103_100 ?_
                    have hg : zpeer t ∧ (0 ≤ m ∧ m ≤ 999999) ∧ (0 ≤ a ∧ a ≤ 999999) ∧ (0 ≤ b ∧ b ≤ 999999) ∧ (0 ≤ c ∧ c ≤ 999999) := ⟨by omega, by omega, by omega, by omega, by omega⟩
                    first
                      | (exfalso; omega)
                      | exact fin hg _ _ (if_pos ⟨by omega, by omega⟩).symm (by unfold mq; first | rw [if_pos (by omega), if_pos (by omega)] | rw [if_pos (by omega), if_neg (by omega)] | rw [if_neg (by omega)])
                      | exact fin hg _ _ (if_neg (fun q => by omega)).symm (by unfold mq; first | rw [if_pos (by omega), if_pos (by omega)] | rw [if_pos (by omega), if_neg (by omega)] | rw [if_neg (by omega)])
                      | (exfalso; omega)
          · refine s103_55 rfl ?_
            refine s103_56 ?_
            refine s103_57 (by first | assumption | rfl) (by simp) ?_
            refine c85 ?_
            refine ⟨_, rfl, ?_⟩
            refine s103_60 (st := []) ?_
            exact hT (fun q => by omega) _ (hth 1) (hF1 1) (v1 1)
end MG
