/-! 58.orderMessage: the reference takes an order message. -/
section ML
variable {S : Nat × (Nat → Int32)} {μ : xM} {g : Nat → Nat → Int} {n : Nat} {Q : xQ} {y : yS} {B : Int} {bs : List Int}
theorem rC.bk {gm : Nat → Nat → Int} {l : List yR} {u : Nat} {x : Int} (h : rC g y) (hu : y.2.2.2.2.length = u) (hu2 : u < 512) (h4 : rC4 gm l) (e : ∀ a i, (a < 109 ∨ 113 < a) → ¬ (a = 100 ∧ i = 29) → gm a i = g a i) : rC (x_uf (x_uf gm 114 u x) 100 35 (u + 1)) (ybook y l (y.2.2.2.2 ++ [x])) := by
  have e2 : ∀ a i, a ≠ 114 → ¬ (a = 100 ∧ i = 35) → x_uf (x_uf gm 114 u x) 100 35 (u + 1) a i = gm a i := fun a i q1 q2 => by rw [x_uf_ne q2, x_uf_ne (fun z => q1 z.1)]
  have e3 : ∀ a i, (a < 109 ∨ 113 < a) → ¬ (a = 100 ∧ i = 29) → a ≠ 114 → ¬ (a = 100 ∧ i = 35) → x_uf (x_uf gm 114 u x) 100 35 (u + 1) a i = g a i := fun a i q1 q2 q3 q4 => (e2 a i q3 q4).trans (e a i q1 q2)
  refine ⟨fun j q1 q2 => by have := mf_b q1 q2; rw [e3 _ _ (by omega) (by omega) (by omega) (by omega)]; exact h.1 j q1 q2, h.2.1.eq (e3 _ _ (by omega) (by omega) (by omega) (by omega)) (fun a i q => e3 _ _ (by omega) (by omega) (by omega) (by omega)), h.2.2.1.eq (fun a i q => e3 _ _ (by omega) (by omega) (by omega) (by omega)), h4.eq (e2 _ _ (by omega) (by omega)) (fun a i q => e2 _ _ (by omega) (by omega)), ⟨?_, ?_, fun i hi => ?_⟩⟩
  · show x_uf (x_uf gm 114 u x) 100 35 (u + 1) 100 35 = ((y.2.2.2.2 ++ [x]).length : Int)
    rw [x_uf_eq, ylen_app, hu]
    rfl
  · show (y.2.2.2.2 ++ [x]).length ≤ 512
    rw [ylen_app, hu]
    exact hu2
  · have hi : i < (y.2.2.2.2 ++ [x]).length := hi
    rw [ylen_app] at hi
    show x_uf (x_uf gm 114 u x) 100 35 (u + 1) 114 i = (y.2.2.2.2 ++ [x]).getD i 0
    rw [ygd_app, x_uf_ne (by omega)]
    by_cases q : i < y.2.2.2.2.length
    · rw [if_pos q, x_uf_ne (by omega), e _ _ (by omega) (by omega)]
      exact h.2.2.2.2.2.2 i q
    · rw [if_neg q, if_pos (by omega), show i = u by omega, x_uf_eq]
theorem yO.carry {t a b c : Int} {k : Nat} {y' : yS} (h : yO y) (ha : 0 ≤ a ∧ a ≤ 999999) (hb : 0 ≤ b ∧ b ≤ 999999) (hc : t = 68 ∨ t = 71 → 0 ≤ c ∧ c ≤ 999999) (ht : t = 68 ∨ t = 70 ∨ t = 71) (q : ycarry y t a b c = some (k, y')) : yO y' := by
  unfold ycarry at q
  by_cases z1 : a = 0 ∨ a ∈ y.2.2.2.2
  · rw [if_pos z1] at q; cases q
  · rw [if_neg z1] at q
    have za : a ∉ y.2.2.2.2 := fun z => z1 (Or.inr z)
    have used : ∀ u, u ∈ y.2.2.2.2 ++ [a] → 0 ≤ u ∧ u ≤ 999999 := fun u hu => by
      rcases List.mem_append.1 hu with w | w
      · exact h.2.2 u w
      · rw [List.mem_singleton.1 w]; exact ha
    -- a list of orders whose k-th is r, with the new id, the others as before
    have key : ∀ (l : List yR) (k : Nat) (r : yR), (∀ i, i < l.length → i ≠ k → i < y.2.2.2.1.length ∧ l.getD i yE = y.2.2.2.1.getD i yE) → l.getD k yE = r → r.1 = a → (0 ≤ r.2.1 ∧ r.2.1 ≤ 2) → r.2.2.1 ≤ 999999 → (0 ≤ r.2.2.2.1 ∧ r.2.2.2.1 ≤ r.2.2.1) → (r.2.2.2.2 = 0 ∨ r.2.2.2.2 = 1) → yO (ybook y l (y.2.2.2.2 ++ [a])) := by
      intro l k r e1 e2 r1 r2 r3 r4 r5
      refine ⟨fun i hi => ?_, fun i j hi hj e => ?_, used⟩
      · have hi : i < l.length := hi
        show (0 ≤ (l.getD i yE).1 ∧ (l.getD i yE).1 ≤ 999999) ∧ (0 ≤ (l.getD i yE).2.1 ∧ (l.getD i yE).2.1 ≤ 2) ∧ (l.getD i yE).2.2.1 ≤ 999999 ∧ (0 ≤ (l.getD i yE).2.2.2.1 ∧ (l.getD i yE).2.2.2.1 ≤ (l.getD i yE).2.2.1) ∧ ((l.getD i yE).2.2.2.2 = 0 ∨ (l.getD i yE).2.2.2.2 = 1) ∧ (l.getD i yE).1 ∈ y.2.2.2.2 ++ [a]
        by_cases c : i = k
        · rw [c, e2, r1]
          exact ⟨ha, r2, r3, r4, r5, List.mem_append_right _ (List.mem_singleton.2 rfl)⟩
        · obtain ⟨w1, w2⟩ := e1 i hi c
          rw [w2]
          obtain ⟨v1, v2, v3, v4, v5, v6⟩ := h.1 i w1
          exact ⟨v1, v2, v3, v4, v5, List.mem_append_left _ v6⟩
      · have hi : i < l.length := hi
        have hj : j < l.length := hj
        have e : (l.getD i yE).1 = (l.getD j yE).1 := e
        by_cases c : i = k
        · by_cases c2 : j = k
          · omega
          · exfalso
            obtain ⟨w1, w2⟩ := e1 j hj c2
            rw [c, e2, r1, w2] at e
            exact za (by rw [e]; exact (h.1 j w1).2.2.2.2.2)
        · obtain ⟨w1, w2⟩ := e1 i hi c
          by_cases c2 : j = k
          · exfalso
            rw [c2, e2, r1, w2] at e
            exact za (by rw [← e]; exact (h.1 i w1).2.2.2.2.2)
          · obtain ⟨w3, w4⟩ := e1 j hj c2
            rw [w2, w4] at e
            exact h.2.1 i j w1 w3 e
    by_cases z2 : t = 68
    · rw [if_pos z2] at q
      by_cases z3 : b < 1 ∨ 2 < b ∨ c = 0 ∨ 40 ≤ y.2.2.2.1.length
      · rw [if_pos z3] at q; cases q
      · rw [if_neg z3] at q
        cases q
        have hcc := hc (Or.inl z2)
        refine key _ y.2.2.2.1.length (a, b, c, 0, 0) (fun i hi hik => ?_) ?_ rfl (show 0 ≤ b ∧ b ≤ 2 by omega) hcc.2 (show (0 : Int) ≤ 0 ∧ 0 ≤ c by omega) (Or.inl rfl)
        · rw [ylen_app] at hi
          exact ⟨by omega, by rw [ygd_app, if_pos (by omega)]⟩
        · rw [ygd_app, if_neg (Nat.lt_irrefl _), if_pos rfl]
    · rw [if_neg z2] at q
      by_cases z3 : yopen y.2.2.2.1 b = y.2.2.2.1.length ∨ (t ≠ 70 ∧ c ≤ (y.2.2.2.1.getD (yopen y.2.2.2.1 b) yE).2.2.2.1)
      · rw [if_pos z3] at q; cases q
      · rw [if_neg z3] at q
        cases q
        have hk : yopen y.2.2.2.1 b < y.2.2.2.1.length := by
          have : yopen y.2.2.2.1 b ≤ y.2.2.2.1.length := List.findIdx_le_length
          omega
        obtain ⟨v1, v2, v3, v4, v5, v6⟩ := h.1 _ hk
        refine key _ (yopen y.2.2.2.1 b) (yamend (y.2.2.2.1.getD (yopen y.2.2.2.1 b) yE) t a c) (fun i hi hik => ?_) ?_ rfl v2 ?_ ?_ ?_
        · rw [List.length_set] at hi
          exact ⟨hi, by rw [ygd_set hk, if_neg hik]⟩
        · rw [ygd_set hk, if_pos rfl]
        · show (if t = 70 then _ else c) ≤ 999999
          split
          · exact v3
          · exact (hc (by omega)).2
        · show 0 ≤ (y.2.2.2.1.getD (yopen y.2.2.2.1 b) yE).2.2.2.1 ∧ (y.2.2.2.1.getD (yopen y.2.2.2.1 b) yE).2.2.2.1 ≤ (if t = 70 then (y.2.2.2.1.getD (yopen y.2.2.2.1 b) yE).2.2.1 else c)
          split
          · exact v4
          · omega
        · show (if t = 70 then (1 : Int) else _) = 0 ∨ (if t = 70 then (1 : Int) else _) = 1
          split
          · exact Or.inr rfl
          · exact v5
theorem c117 {t m d a b c : Int} (hC : rC g y) (hP : rP y) (hO : yO y) (hu : y.2.2.2.2.length < 512) (hH : rH g t m d a b c) (ht : t = 68 ∨ t = 70 ∨ t = 71) (ha : 0 ≤ a ∧ a ≤ 999999) (hb : 0 ≤ b ∧ b ≤ 999999) (hc0 : ib c) (hc : t = 68 ∨ t = 71 → 0 ≤ c ∧ c ≤ 999999) (h8 : 0 ≤ y.1 8 ∧ y.1 8 ≤ 1000000) (h : ∀ g', rC g' (yorder (yset y 8 (y.1 8 + 1)) t a b c) → rF g g' → Q (.inl none) (x_vm g') n) : x_V S 117 0 [some (.ref 100), none] [] (x_vm g) n Q := by
  obtain ⟨et, em, ed, ea, eb, ec⟩ := hH
  have k36 : g 100 36 = y.1 8 := hC.1.at.2.2.2.2.2.1
  have hC1 : rC (x_uf g 100 36 (y.1 8 + 1)) (yset y 8 (y.1 8 + 1)) := rC.set (j := 8) (by omega) (by omega) (by omega) hC
  have hF1 : rF g (x_uf g 100 36 (y.1 8 + 1)) := rF.u (by omega)
  have hP1 : rP (yset y 8 (y.1 8 + 1)) := hP
  have hO1 : yO (yset y 8 (y.1 8 + 1)) := hO
  have hu1 : (yset y 8 (y.1 8 + 1)).2.2.2.2.length < 512 := hu
  have h4 := hP.2.1
  refine s117_0 rfl ?_
  refine s117_1 rfl ?_
  refine s117_2 rfl rfl (by decide) ?_
  rw [k36]
  refine s117_5 ?_
  refine s117_6 ?_
  refine s117_7 rfl rfl (by decide) ?_
  have f8 : x_uf g 100 36 (y.1 8 + 1) 100 8 = t := by rw [x_uf_ne (by omega)]; exact et
  have fa : x_uf g 100 36 (y.1 8 + 1) 100 10 = a := by rw [x_uf_ne (by omega)]; exact ea
  have fb : x_uf g 100 36 (y.1 8 + 1) 100 11 = b := by rw [x_uf_ne (by omega)]; exact eb
  have fc : x_uf g 100 36 (y.1 8 + 1) 100 12 = c := by rw [x_uf_ne (by omega)]; exact ec
  have h4' : 1 ≤ (yset y 8 (y.1 8 + 1)).1 4 ∧ (yset y 8 (y.1 8 + 1)).1 4 < 1600 := h4
  generalize x_uf g 100 36 (y.1 8 + 1) = g1 at hC1 hF1 f8 fa fb fc
  generalize yset y 8 (y.1 8 + 1) = y1 at hC1 hP1 hO1 hu1 h h4'
  refine s117_10 rfl ?_
  refine s117_11 rfl (by simp) ?_
  unfold yorder at h
  refine c116 hC1 hO1 f8 fa fb fc ht ⟨by omega, by omega⟩ ⟨by omega, by omega⟩ hc0 (fun e => ?_) (fun k l gm hk e r4 fr => ?_)
  · refine ⟨_, rfl, ?_⟩
    rw [e] at h
    simp only at h
    rw [← rsend_rep] at h
    have hro : rok (56, y1.1 4, 0, a, 56, 0, 0) := ⟨⟨(show (0 : Int) ≤ 56 ∧ (56 : Int) ≤ 127 by omega), (show 0 ≤ y1.1 4 ∧ y1.1 4 ≤ 999999 by omega), Or.inl rfl, (show -1 ≤ a ∧ a ≤ 999999 by omega), (show (-1 : Int) ≤ 56 ∧ (56 : Int) ≤ 999999 by omega), (show (-1 : Int) ≤ 0 ∧ (0 : Int) ≤ 999999 by omega), (show (-1 : Int) ≤ 0 ∧ (0 : Int) ≤ 999999 by omega), fun _ => (show (0 : Int) ≤ 56 ∧ (56 : Int) ≤ 127 by omega)⟩, (show xty 56 by decide), fun _ => (show 0 ≤ a by omega), (show (0 : Int) ≤ 56 by omega), Int.le_refl 0, Int.le_refl 0⟩
    refine s117_14 ?_
    refine s117_15 rfl ?_
    refine s117_16 ⟨by omega, by omega⟩ (fun h16 => ?_) (fun h16 => ?_)
    · exfalso; omega
    · refine s117_19 rfl ?_
      refine s117_20 ?_
      refine s117_22 rfl ?_
      refine s117_23 (by first | assumption | rfl) (by first | assumption | (exact hpo _) | rfl | decide) (by first | assumption | decide | omega) ?_
      rw [fa]
      refine s117_26 ?_
      refine s117_28 ?_
      refine s117_29 ?_
      refine s117_30 (by first | assumption | rfl) (by simp) ?_
      refine c98p hC1 hP1 ⟨by omega, by omega⟩ (by omega) (fun _ => hro) (fun g2 c2 hF2 => ?_)
      refine ⟨_, rfl, ?_⟩
      refine s117_33 (st := []) ?_
      exact h _ c2 (hF1.tr hF2)
  · refine ⟨_, rfl, ?_⟩
    have hO2 := hO1.carry ha hb hc ht e
    obtain ⟨f1, f2, f3, f4⟩ := ycarry_ok (B := 0) hO1 ha hb hc ht e
    rw [e] at h
    simp only at h
    have hC2 := hC1.bk (gm := x_uf gm 109 k a) (x := a) rfl hu1 r4 (fun a' i q1 q2 => by rw [x_uf_ne (by omega)]; exact fr a' i q1 q2)
    have hP2 : rP (ybook y1 l (y1.2.2.2.2 ++ [a])) := hP1
    have ga : gm 100 10 = a := by rw [fr _ _ (by omega) (by omega)]; exact fa
    have ga2 : x_uf gm 109 k a 100 10 = a := by rw [x_uf_ne (by omega)]; exact ga
    have k35 : x_uf gm 109 k a 100 35 = y1.2.2.2.2.length := by rw [x_uf_ne (by omega), fr _ _ (by omega) (by omega)]; exact hC1.2.2.2.2.1
    have k35b : x_uf (x_uf gm 109 k a) 114 y1.2.2.2.2.length a 100 35 = y1.2.2.2.2.length := by rw [x_uf_ne (by omega)]; exact k35
    have hF3 : rF g1 (x_uf (x_uf (x_uf gm 109 k a) 114 y1.2.2.2.2.length a) 100 35 (y1.2.2.2.2.length + 1)) := fun a' i q => by rw [x_uf_ne (by omega), x_uf_ne (by omega), x_uf_ne (by omega)]; exact fr _ _ (by omega) (by omega)
    have rid : ((ybook y1 l (y1.2.2.2.2 ++ [a])).2.2.2.1.getD k yE).1 = a := by
      have hk3 : k < l.length := f3
      have := (r4.at hk3).1
      rw [x_uf_eq] at this
      exact this.symm
    refine s117_14 ?_
    refine s117_15 rfl ?_
    refine s117_16 ⟨by omega, by omega⟩ (fun h16 => ?_) (fun h16 => ?_)
    · refine s117_34 rfl ?_
      refine s117_35 (by first | assumption | rfl) (by first | assumption | (exact hpo _) | rfl | decide) ?_
      refine s117_38 rfl ?_
      refine s117_39 rfl ?_
      refine s117_40 (by first | assumption | rfl) (by first | assumption | (exact hpo _) | rfl | decide) (by first | assumption | decide | omega) ?_
      rw [ga]
      refine v_iast d117_43 (by first | assumption | rfl) (by omega) (by omega) (by omega) (by first | assumption | (exact hpo _) | rfl | decide) (by first | assumption | decide | omega) ?_
      rw [Int.toNat_natCast]
      refine s117_44 rfl ?_
      refine s117_45 (by first | assumption | rfl) (by first | assumption | (exact hpo _) | rfl | decide) ?_
      refine s117_48 rfl ?_
      refine s117_49 (by first | assumption | rfl) (by first | assumption | (exact hpo _) | rfl | decide) (by first | assumption | decide | omega) ?_
      rw [k35]
      refine s117_52 rfl ?_
      refine s117_53 (by first | assumption | rfl) (by first | assumption | (exact hpo _) | rfl | decide) (by first | assumption | decide | omega) ?_
      rw [ga2]
      refine v_iast d117_56 (by first | assumption | rfl) (by omega) (by omega) (by omega) (by first | assumption | (exact hpo _) | rfl | decide) (by first | assumption | decide | omega) ?_
      rw [Int.toNat_natCast]
      refine s117_57 rfl ?_
      refine s117_58 rfl ?_
      refine s117_59 (by first | assumption | rfl) (by first | assumption | (exact hpo _) | rfl | decide) (by first | assumption | decide | omega) ?_
      rw [k35b]
      refine s117_62 ?_
      refine s117_63 ?_
      refine s117_64 (by first | assumption | rfl) (by first | assumption | (exact hpo _) | rfl | decide) (by first | assumption | decide | omega) ?_
      refine s117_67 rfl ?_
      refine s117_68 rfl ?_
      refine s117_69 (by first | assumption | rfl) (by simp) ?_
      refine c115 hC2 hP2 hO2 f3 (fun g3 c3 hF4 => ?_)
      refine ⟨_, rfl, ?_⟩
      rw [rid] at c3
      refine s117_72 (st := []) ?_
      exact h _ c3 ((hF1.tr hF3).tr hF4)
    · exfalso; omega
end ML
