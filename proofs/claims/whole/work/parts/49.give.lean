/-! 49.give: the reference's small methods, give, spoil, add. -/
section MG
variable {S : Nat × (Nat → Int32)} {μ : xM} {g : Nat → Nat → Int} {n : Nat} {Q : xQ} {y : yS} {B : Int} {bs : List Int}
theorem rC.fr {g' : Nat → Nat → Int} (h : rC g y) (e : ∀ a i, ((a = 100 ∧ 15 ≤ i ∧ i ≠ 18 ∧ i ≠ 38) ∨ 105 ≤ a) → g' a i = g a i) : rC g' y :=
  ⟨fun j q1 q2 => by have := mf_b q1 q2; rw [e _ _ (by omega)]; exact h.1 j q1 q2, h.2.1.eq (e _ _ (by omega)) (fun a i q => e _ _ (by omega)), h.2.2.1.eq (fun a i q => e _ _ (by omega)), h.2.2.2.1.eq (e _ _ (by omega)) (fun a i q => e _ _ (by omega)), h.2.2.2.2.eq (e _ _ (by omega)) (fun i => e _ _ (by omega))⟩
theorem rC.clr (h : rC g y) : rC (x_uf g 100 15 0) (yclr y) :=
  ⟨fun j q1 q2 => by have := mf_b q1 q2; rw [x_uf_ne (by omega)]; exact h.1 j q1 q2, ⟨x_uf_eq _ _ _ _, fun k _ q => absurd q (Nat.not_lt_zero _)⟩, h.2.2.1.eq (fun a i q => x_uf_ne (by omega)), h.2.2.2.1.eq (x_uf_ne (by omega)) (fun a i q => x_uf_ne (by omega)), h.2.2.2.2.eq (x_uf_ne (by omega)) (fun i => x_uf_ne (by omega))⟩
/-- the frame at hand as the reference keeps it -/
def rI (g : Nat → Nat → Int) (bs : List Int) : Prop := g 100 1 = (if bs = [] then 0 else 1) ∧ (bs ≠ [] → g 100 2 = bs.length ∧ ∀ i, i < bs.length → g 101 i = bs.getD i 0) ∧ bs.length ≤ 120 ∧ x_by bs
def sC (g : Nat → Nat → Int) (y : yS) (bs : List Int) : Prop := rC g y ∧ rI g bs
/-- what the reference's calls leave alone -/
def sF (g g' : Nat → Nat → Int) : Prop := ∀ a i, (a < 100 ∨ 115 ≤ a) → g' a i = g a i
theorem sF.rf : sF g g := fun _ _ _ => rfl
theorem sF.tr {g1 g2 : Nat → Nat → Int} (h1 : sF g g1) (h2 : sF g1 g2) : sF g g2 := fun a i h => (h2 a i h).trans (h1 a i h)
theorem rF.s {g' : Nat → Nat → Int} (h : rF g g') : sF g g' := fun a i q => h a i (by omega)
theorem sF.u {j : Nat} {z : Int} : sF g (x_uf g 100 j z) := fun a i h => x_uf_ne (by omega)
theorem rI.eq {g' : Nat → Nat → Int} (h : rI g bs) (e : ∀ i, i = 1 ∨ i = 2 → g' 100 i = g 100 i) (e2 : ∀ i, g' 101 i = g 101 i) : rI g' bs :=
  ⟨by rw [e _ (by omega)]; exact h.1, fun q => ⟨by rw [e _ (by omega)]; exact (h.2.1 q).1, fun i hi => by rw [e2]; exact (h.2.1 q).2 i hi⟩, h.2.2.1, h.2.2.2⟩
theorem c84 (h : Q (.inl (some (.int (I (g 100 0))))) (x_vm g) n) : x_V S 84 0 [some (.ref 100)] [] (x_vm g) n Q := by
  refine s84_0 rfl ?_
  refine s84_1 (by first | assumption | rfl) (by first | assumption | (exact hpo _) | rfl | decide) (by first | assumption | decide | omega) ?_
  refine s84_4 (st := []) ?_
  exact h
theorem c85 {c : Int} (h : Q (.inl (some (.int (I 0)))) (x_vm (x_uf g 100 0 c)) n) : x_V S 85 0 [some (.ref 100), some (.int (I c))] [] (x_vm g) n Q := by
  refine s85_0 rfl ?_
  refine s85_1 rfl ?_
  refine s85_2 (by first | assumption | rfl) (by first | assumption | (exact hpo _) | rfl | decide) (by first | assumption | decide | omega) ?_
  refine s85_5 ?_
  refine s85_6 (st := []) ?_
  exact h
theorem c86 {v a b : Int} (hv : ib v) (ha : ib a) (hb : ib b) (h : Q (.inl (some (.int (I (if a ≤ v ∧ v ≤ b then 1 else 0))))) μ n) : x_V S 86 0 [some (.int (I v)), some (.int (I a)), some (.int (I b))] [] μ n Q := by
  obtain ⟨v1, v2⟩ := hv
  obtain ⟨a1, a2⟩ := ha
  obtain ⟨b1, b2⟩ := hb
  refine s86_0 rfl ?_
  refine s86_1 rfl ?_
  refine s86_2 ⟨by omega, by omega⟩ ⟨by omega, by omega⟩ (fun h2 => ?_) (fun h2 => ?_)
  · refine s86_14 ?_
    refine s86_15 (st := []) (by omega) ?_
    first | (rw [if_pos (by omega)] at h; exact h) | (rw [if_neg (by omega)] at h; exact h)
  · refine s86_5 rfl ?_
    refine s86_6 rfl ?_
    refine s86_7 ⟨by omega, by omega⟩ ⟨by omega, by omega⟩ (fun h7 => ?_) (fun h7 => ?_)
    · refine s86_14 ?_
      refine s86_15 (st := []) (by omega) ?_
      first | (rw [if_pos (by omega)] at h; exact h) | (rw [if_neg (by omega)] at h; exact h)
    · refine s86_10 ?_
      refine s86_11 ?_
      refine s86_15 (st := []) (by omega) ?_
      first | (rw [if_pos (by omega)] at h; exact h) | (rw [if_neg (by omega)] at h; exact h)
theorem c102 {t : Int} (ht : ib t) (h : Q (.inl (some (.int (I (if zpeer t then 1 else 0))))) μ n) : x_V S 102 0 [some (.int (I t))] [] μ n Q := by
  obtain ⟨v1, v2⟩ := ht
  refine s102_0 rfl ?_
  refine s102_1 ?_
  refine s102_3 ⟨by omega, by omega⟩ ⟨by omega, by omega⟩ (fun h3 => ?_) (fun h3 => ?_)
  · refine s102_54 ?_
    refine s102_55 ?_
    refine s102_59 (st := []) (by omega) ?_
    first | (rw [if_pos (show zpeer t by omega)] at h; exact h) | (rw [if_neg (show ¬ zpeer t by omega)] at h; exact h)
  · refine s102_6 rfl ?_
    refine s102_7 ?_
    refine s102_9 ⟨by omega, by omega⟩ ⟨by omega, by omega⟩ (fun h9 => ?_) (fun h9 => ?_)
    · refine s102_54 ?_
      refine s102_55 ?_
      refine s102_59 (st := []) (by omega) ?_
      first | (rw [if_pos (show zpeer t by omega)] at h; exact h) | (rw [if_neg (show ¬ zpeer t by omega)] at h; exact h)
    · refine s102_12 rfl ?_
      refine s102_13 ?_
      refine s102_15 ⟨by omega, by omega⟩ ⟨by omega, by omega⟩ (fun h15 => ?_) (fun h15 => ?_)
      · refine s102_54 ?_
        refine s102_55 ?_
        refine s102_59 (st := []) (by omega) ?_
        first | (rw [if_pos (show zpeer t by omega)] at h; exact h) | (rw [if_neg (show ¬ zpeer t by omega)] at h; exact h)
      · refine s102_18 rfl ?_
        refine s102_19 ?_
        refine s102_21 ⟨by omega, by omega⟩ ⟨by omega, by omega⟩ (fun h21 => ?_) (fun h21 => ?_)
        · refine s102_54 ?_
          refine s102_55 ?_
          refine s102_59 (st := []) (by omega) ?_
          first | (rw [if_pos (show zpeer t by omega)] at h; exact h) | (rw [if_neg (show ¬ zpeer t by omega)] at h; exact h)
        · refine s102_24 rfl ?_
          refine s102_25 ?_
          refine s102_27 ⟨by omega, by omega⟩ ⟨by omega, by omega⟩ (fun h27 => ?_) (fun h27 => ?_)
          · refine s102_54 ?_
            refine s102_55 ?_
            refine s102_59 (st := []) (by omega) ?_
            first | (rw [if_pos (show zpeer t by omega)] at h; exact h) | (rw [if_neg (show ¬ zpeer t by omega)] at h; exact h)
          · refine s102_30 rfl ?_
            refine s102_31 ?_
            refine s102_33 ⟨by omega, by omega⟩ ⟨by omega, by omega⟩ (fun h33 => ?_) (fun h33 => ?_)
            · refine s102_54 ?_
              refine s102_55 ?_
              refine s102_59 (st := []) (by omega) ?_
              first | (rw [if_pos (show zpeer t by omega)] at h; exact h) | (rw [if_neg (show ¬ zpeer t by omega)] at h; exact h)
            · refine s102_36 rfl ?_
              refine s102_37 ?_
              refine s102_39 ⟨by omega, by omega⟩ ⟨by omega, by omega⟩ (fun h39 => ?_) (fun h39 => ?_)
              · refine s102_54 ?_
                refine s102_55 ?_
                refine s102_59 (st := []) (by omega) ?_
                first | (rw [if_pos (show zpeer t by omega)] at h; exact h) | (rw [if_neg (show ¬ zpeer t by omega)] at h; exact h)
              · refine s102_42 rfl ?_
                refine s102_43 ?_
                refine s102_45 ⟨by omega, by omega⟩ ⟨by omega, by omega⟩ (fun h45 => ?_) (fun h45 => ?_)
                · refine s102_54 ?_
                  refine s102_55 ?_
                  refine s102_59 (st := []) (by omega) ?_
                  first | (rw [if_pos (show zpeer t by omega)] at h; exact h) | (rw [if_neg (show ¬ zpeer t by omega)] at h; exact h)
                · refine s102_48 rfl ?_
                  refine s102_49 ?_
                  refine s102_51 ⟨by omega, by omega⟩ ⟨by omega, by omega⟩ (fun h51 => ?_) (fun h51 => ?_)
                  · refine s102_58 ?_
                    refine s102_59 (st := []) (by omega) ?_
                    first | (rw [if_pos (show zpeer t by omega)] at h; exact h) | (rw [if_neg (show ¬ zpeer t by omega)] at h; exact h)
                  · refine s102_54 ?_
                    refine s102_55 ?_
                    refine s102_59 (st := []) (by omega) ?_
                    first | (rw [if_pos (show zpeer t by omega)] at h; exact h) | (rw [if_neg (show ¬ zpeer t by omega)] at h; exact h)
theorem sC.thr {c : Int} (h : sC g y bs) : sC (x_uf (x_uf g 100 0 0) 100 0 c) y bs := ⟨h.1.fr (fun a i q => by rw [x_uf_ne (by omega), x_uf_ne (by omega)]), h.2.eq (fun i q => by rw [x_uf_ne (by omega), x_uf_ne (by omega)]) (fun i => by rw [x_uf_ne (by omega), x_uf_ne (by omega)])⟩
theorem sC.th0 (h : sC g y bs) : sC (x_uf g 100 0 0) y bs := ⟨h.1.fr (fun a i q => x_uf_ne (by omega)), h.2.eq (fun i q => x_uf_ne (by omega)) (fun i => x_uf_ne (by omega))⟩
theorem yfr_ne (M : yM) : yfr M ≠ [] := by
  intro h
  unfold yfr x_fr x_hb at h
  simp at h
theorem c104 {i x : Int} (hZ : sC g y bs) (hi : ib i) (hx : ib x)
    (hT : ¬ (0 ≤ i ∧ i < bs.length) → ∀ g', sC g' y bs → sF g g' → g' 100 0 = 1 → Q (.inl (some (.int (I 0)))) (x_vm g') n)
    (hU : (0 ≤ i ∧ i < bs.length) → ¬ (1 ≤ x ∧ x ≤ 127) → ∀ g', sC g' y bs → sF g g' → g' 100 0 = 2 → Q (.inl (some (.int (I 0)))) (x_vm g') n)
    (hR : (0 ≤ i ∧ i < bs.length) → (1 ≤ x ∧ x ≤ 127) → ∀ g', sC g' (yclr y) (bs.set i.toNat (zx (bs.getD i.toNat 0) x)) → sF g g' → g' 100 0 = 0 → Q (.inl (some (.int (I (zx (bs.getD i.toNat 0) x))))) (x_vm g') n) : x_V S 104 0 [some (.ref 100), some (.int (I i)), some (.int (I x))] [] (x_vm g) n Q := by
  obtain ⟨i1, i2⟩ := hi
  obtain ⟨x1, x2⟩ := hx
  have hth := fun c : Int => hZ.thr (c := c)
  have hZ0 := hZ.th0
  have hF0 : sF g (x_uf g 100 0 0) := sF.u
  have hF1 : ∀ c : Int, sF g (x_uf (x_uf g 100 0 0) 100 0 c) := fun c => sF.u.tr sF.u
  have v1 : ∀ c : Int, x_uf (x_uf g 100 0 0) 100 0 c 100 0 = c := fun c => x_uf_eq _ _ _ _
  have v0 : x_uf g 100 0 0 100 0 = 0 := x_uf_eq _ _ _ _
  refine s104_0 rfl ?_
  refine s104_1 ?_
  refine s104_2 rfl rfl (by decide) ?_
  generalize x_uf g 100 0 0 = g1 at hth hZ0 hF0 hF1 v1 v0 ⊢
  obtain ⟨hC, d1, d2, d3, d4⟩ := hZ0
  have e1 : (g1 100 1 = 0 ∧ bs.length = 0) ∨ (g1 100 1 = 1 ∧ bs.length ≠ 0 ∧ g1 100 2 = bs.length) := by
    by_cases c : bs = []
    · left; rw [d1, if_pos c, c]; exact ⟨rfl, rfl⟩
    · right; rw [d1, if_neg c]; exact ⟨rfl, fun z => c (List.eq_nil_of_length_eq_zero z), (d2 c).1⟩
  refine s104_5 rfl ?_
  refine s104_6 (by first | assumption | rfl) (by first | assumption | (exact hpo _) | rfl | decide) (by first | assumption | decide | omega) ?_
  refine s104_9 ⟨by omega, by omega⟩ (fun h9 => ?_) (fun h9 => ?_)
  · refine s104_26 rfl ?_
    refine s104_27 ?_
    refine s104_28 (by first | assumption | rfl) (by simp) ?_
    refine c85 ?_
    refine ⟨_, rfl, ?_⟩
    refine s104_31 (st := []) ?_
    exact hT (by omega) _ (hth 1) (hF1 1) (v1 1)
  · refine s104_12 rfl ?_
    refine s104_13 ?_
    refine s104_14 rfl ?_
    refine s104_15 (by first | assumption | rfl) (by first | assumption | (exact hpo _) | rfl | decide) (by first | assumption | decide | omega) ?_
    refine s104_18 ?_
    refine s104_19 ?_
    refine s104_20 (by simp) ?_
    refine c86 ⟨by omega, by omega⟩ ⟨by omega, by omega⟩ ⟨by omega, by omega⟩ ?_
    refine ⟨_, rfl, ?_⟩
    generalize ezi : (if 0 ≤ i ∧ i ≤ g1 100 2 - 1 then (1 : Int) else 0) = zi
    have hzi : (zi = 0 ∧ ¬ (0 ≤ i ∧ i ≤ g1 100 2 - 1)) ∨ (zi = 1 ∧ 0 ≤ i ∧ i ≤ g1 100 2 - 1) := by
      rw [← ezi]
      split
      · exact Or.inr ⟨rfl, by assumption⟩
      · exact Or.inl ⟨rfl, by assumption⟩
    refine s104_23 ⟨by omega, by omega⟩ (fun h23 => ?_) (fun h23 => ?_)
    · refine s104_32 rfl ?_
      refine s104_33 ?_
      refine s104_34 ?_
      refine s104_36 (by simp) ?_
      refine c86 ⟨by omega, by omega⟩ ⟨by omega, by omega⟩ ⟨by omega, by omega⟩ ?_
      refine ⟨_, rfl, ?_⟩
      generalize ezw : (if 1 ≤ x ∧ x ≤ 127 then (1 : Int) else 0) = zw
      have hzw : (zw = 0 ∧ ¬ (1 ≤ x ∧ x ≤ 127)) ∨ (zw = 1 ∧ 1 ≤ x ∧ x ≤ 127) := by
        rw [← ezw]
        split
        · exact Or.inr ⟨rfl, by assumption⟩
        · exact Or.inl ⟨rfl, by assumption⟩
      refine s104_39 ⟨by omega, by omega⟩ (fun h39 => ?_) (fun h39 => ?_)
      · have hne : bs ≠ [] := fun z => by rw [z] at e1; simp only [List.length_nil] at e1; omega
        have hib := x_by_get d4 (j := i.toNat) (by omega)
        have e101 := (d2 hne).2 i.toNat (by omega)
        have hzb := zx_b hib (x := x) ⟨by omega, by omega⟩
        refine s104_48 rfl ?_
        refine s104_49 (by first | assumption | rfl) (by first | assumption | (exact hpo _) | rfl | decide) ?_
        refine s104_52 rfl ?_
        refine s104_53 rfl ?_
        refine s104_54 (by first | assumption | rfl) (by first | assumption | (exact hpo _) | rfl | decide) ?_
        refine s104_57 rfl ?_
        refine v_iald d104_58 (by first | assumption | rfl) (by omega) (by omega) (by omega) (by first | assumption | (exact hpo _) | rfl | decide) (by first | assumption | decide | omega) ?_
        rw [e101]
        refine s104_59 rfl ?_
        refine s104_60 ?_
        rw [zx_I]
        refine v_iast d104_61 (by first | assumption | rfl) (by omega) (by omega) (by omega) (by first | assumption | (exact hpo _) | rfl | decide) (by first | assumption | decide | omega) ?_
        refine s104_62 rfl ?_
        refine s104_63 ?_
        refine s104_64 (by first | assumption | rfl) (by first | assumption | (exact hpo _) | rfl | decide) (by first | assumption | decide | omega) ?_
        refine s104_67 rfl ?_
        refine s104_68 (by first | assumption | rfl) (by first | assumption | (exact hpo _) | rfl | decide) ?_
        refine s104_71 rfl ?_
        refine v_iald d104_72 (by first | assumption | rfl) (by omega) (by omega) (by omega) (by first | assumption | (exact hpo _) | rfl | decide) (by first | assumption | decide | omega) ?_
        rw [show x_uf (x_uf g1 101 i.toNat (zx (bs.getD i.toNat 0) x)) 100 15 0 101 i.toNat = zx (bs.getD i.toNat 0) x by rw [x_uf_ne (by omega), x_uf_eq]]
        refine s104_73 (st := []) ?_
        refine hR ⟨by omega, by omega⟩ ⟨by omega, by omega⟩ _ ⟨(hC.fr (fun a j q => x_uf_ne (by omega))).clr, ?_, ?_, ?_, ?_⟩ (hF0.tr (fun a j q => by rw [x_uf_ne (by omega), x_uf_ne (by omega)])) (by rw [x_uf_ne (by omega), x_uf_ne (by omega)]; exact v0)
        · rw [x_uf_ne (by omega), x_uf_ne (by omega), if_neg (fun z => hne (List.eq_nil_of_length_eq_zero (by have := congrArg List.length z; rw [List.length_set] at this; exact this)))]; omega
        · refine fun _ => ⟨by rw [x_uf_ne (by omega), x_uf_ne (by omega), List.length_set]; omega, fun j hj => ?_⟩
          rw [List.length_set] at hj
          rw [ygd_set (by omega), x_uf_ne (by omega)]
          by_cases c : j = i.toNat
          · rw [if_pos c, c, x_uf_eq]
          · rw [if_neg c, x_uf_ne (by omega)]; exact (d2 hne).2 j hj
        · rw [List.length_set]; exact d3
        · intro z hz
          rcases List.mem_or_eq_of_mem_set hz with q | q
          · exact d4 z q
          · rw [q]; exact hzb
      · refine s104_42 rfl ?_
        refine s104_43 ?_
        refine s104_44 (by first | assumption | rfl) (by simp) ?_
        refine c85 ?_
        refine ⟨_, rfl, ?_⟩
        refine s104_47 (st := []) ?_
        exact hU (by omega) (by omega) _ (hth 2) (hF1 2) (v1 2)
    · refine s104_26 rfl ?_
      refine s104_27 ?_
      refine s104_28 (by first | assumption | rfl) (by simp) ?_
      refine c85 ?_
      refine ⟨_, rfl, ?_⟩
      refine s104_31 (st := []) ?_
      exact hT (by omega) _ (hth 1) (hF1 1) (v1 1)
end MG
