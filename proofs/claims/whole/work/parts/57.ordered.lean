/-! 57.ordered: the reference carries an order message out. -/
section ML
variable {S : Nat × (Nat → Int32)} {μ : xM} {g : Nat → Nat → Int} {n : Nat} {Q : xQ} {y : yS} {B : Int} {bs : List Int}
/-- the message at hand in the reference: type, number, duplicate, a, b, c -/
def rH (g : Nat → Nat → Int) (t m d a b c : Int) : Prop := g 100 8 = t ∧ g 100 9 = m ∧ g 100 13 = d ∧ g 100 10 = a ∧ g 100 11 = b ∧ g 100 12 = c
theorem rH.f {g' : Nat → Nat → Int} {t m d a b c : Int} (h : rH g t m d a b c) (hF : rF g g') : rH g' t m d a b c := by
  obtain ⟨h1, h2, h3, h4, h5, h6⟩ := h
  exact ⟨(hF _ _ (by omega)).trans h1, (hF _ _ (by omega)).trans h2, (hF _ _ (by omega)).trans h3, (hF _ _ (by omega)).trans h4, (hF _ _ (by omega)).trans h5, (hF _ _ (by omega)).trans h6⟩
theorem rC4.new {g' : Nat → Nat → Int} {l : List yR} {r : yR} (h : rC4 g l) (hk : l.length < 40) (e0 : g' 100 29 = l.length + 1) (er : (g' 109 l.length, g' 110 l.length, g' 111 l.length, g' 112 l.length, g' 113 l.length) = r) (e : ∀ a i, 109 ≤ a ∧ a ≤ 113 → i ≠ l.length → g' a i = g a i) : rC4 g' (l ++ [r]) := by
  refine ⟨by rw [e0, ylen_app]; rfl, by rw [ylen_app]; exact hk, fun i hi => ?_⟩
  rw [ylen_app] at hi
  rw [ygd_app]
  by_cases c : i < l.length
  · rw [if_pos c, e _ _ (by omega) (by omega), e _ _ (by omega) (by omega), e _ _ (by omega) (by omega), e _ _ (by omega) (by omega), e _ _ (by omega) (by omega)]
    exact h.2.2 i c
  · rw [if_neg c, if_pos (by omega), show i = l.length by omega]
    exact er
theorem c116 {t a b c : Int} (hC : rC g y) (hO : yO y) (et : g 100 8 = t) (ea : g 100 10 = a) (eb : g 100 11 = b) (ec : g 100 12 = c) (ht : t = 68 ∨ t = 70 ∨ t = 71) (ha : ib a) (hb : ib b) (hc : ib c)
    (hN : ycarry y t a b c = none → Q (.inl (some (.int (I (-1))))) (x_vm g) n)
    (hY : ∀ (k : Nat) (l : List yR) (gm : Nat → Nat → Int), k < 40 → ycarry y t a b c = some (k, ybook y l (y.2.2.2.2 ++ [a])) → rC4 (x_uf gm 109 k a) l → (∀ a' i, (a' < 109 ∨ 113 < a') → ¬ (a' = 100 ∧ i = 29) → gm a' i = g a' i) → Q (.inl (some (.int (I k)))) (x_vm gm) n) : x_V S 116 0 [some (.ref 100), none] [] (x_vm g) n Q := by
  have hb2 := hb
  have ha2 := ha
  obtain ⟨a1, a2⟩ := ha
  obtain ⟨b1, b2⟩ := hb
  obtain ⟨c1, c2⟩ := hc
  have h40 := hC.2.2.2.1.2.1
  have h29 := hC.2.2.2.1.1
  unfold ycarry at hN hY
  have new : ¬ (a = 0 ∨ a ∈ y.2.2.2.2) → t = 68 → ¬ (b < 1 ∨ 2 < b ∨ c = 0 ∨ 40 ≤ y.2.2.2.1.length) → x_V S 116 63 [some (.ref 100), none] [] (x_vm g) n Q := by
    intro z1 z2 z3
    rw [if_neg z1, if_pos z2, if_neg z3] at hY
    have s1 : x_uf g 110 y.2.2.2.1.length b 100 29 = y.2.2.2.1.length := by rw [x_uf_ne (by omega)]; exact h29
    have s1c : x_uf g 110 y.2.2.2.1.length b 100 12 = c := by rw [x_uf_ne (by omega)]; exact ec
    have s2 : x_uf (x_uf g 110 y.2.2.2.1.length b) 111 y.2.2.2.1.length c 100 29 = y.2.2.2.1.length := by rw [x_uf_ne (by omega)]; exact s1
    have s3 : x_uf (x_uf (x_uf g 110 y.2.2.2.1.length b) 111 y.2.2.2.1.length c) 112 y.2.2.2.1.length 0 100 29 = y.2.2.2.1.length := by rw [x_uf_ne (by omega)]; exact s2
    have s4 : x_uf (x_uf (x_uf (x_uf g 110 y.2.2.2.1.length b) 111 y.2.2.2.1.length c) 112 y.2.2.2.1.length 0) 113 y.2.2.2.1.length 0 100 29 = y.2.2.2.1.length := by rw [x_uf_ne (by omega)]; exact s3
    have s5 : x_uf (x_uf (x_uf (x_uf (x_uf g 110 y.2.2.2.1.length b) 111 y.2.2.2.1.length c) 112 y.2.2.2.1.length 0) 113 y.2.2.2.1.length 0) 100 29 (y.2.2.2.1.length + 1) 100 29 = (y.2.2.2.1.length : Int) + 1 := x_uf_eq _ _ _ _
    refine s116_63 rfl ?_
    refine s116_64 (by first | assumption | rfl) (by first | assumption | (exact hpo _) | rfl | decide) ?_
    refine s116_67 rfl ?_
    refine s116_68 (by first | assumption | rfl) (by first | assumption | (exact hpo _) | rfl | decide) (by first | assumption | decide | omega) ?_
    rw [h29]
    refine s116_71 rfl ?_
    refine s116_72 (by first | assumption | rfl) (by first | assumption | (exact hpo _) | rfl | decide) (by first | assumption | decide | omega) ?_
    rw [eb]
    refine v_iast d116_75 (by first | assumption | rfl) (by omega) (by omega) (by omega) (by first | assumption | (exact hpo _) | rfl | decide) (by first | assumption | decide | omega) ?_
    rw [Int.toNat_natCast]
    refine s116_76 rfl ?_
    refine s116_77 (by first | assumption | rfl) (by first | assumption | (exact hpo _) | rfl | decide) ?_
    refine s116_80 rfl ?_
    refine s116_81 (by first | assumption | rfl) (by first | assumption | (exact hpo _) | rfl | decide) (by first | assumption | decide | omega) ?_
    rw [s1]
    refine s116_84 rfl ?_
    refine s116_85 (by first | assumption | rfl) (by first | assumption | (exact hpo _) | rfl | decide) (by first | assumption | decide | omega) ?_
    rw [s1c]
    refine v_iast d116_88 (by first | assumption | rfl) (by omega) (by omega) (by omega) (by first | assumption | (exact hpo _) | rfl | decide) (by first | assumption | decide | omega) ?_
    rw [Int.toNat_natCast]
    refine s116_89 rfl ?_
    refine s116_90 (by first | assumption | rfl) (by first | assumption | (exact hpo _) | rfl | decide) ?_
    refine s116_93 rfl ?_
    refine s116_94 (by first | assumption | rfl) (by first | assumption | (exact hpo _) | rfl | decide) (by first | assumption | decide | omega) ?_
    rw [s2]
    refine s116_97 ?_
    refine v_iast d116_98 (by first | assumption | rfl) (by omega) (by omega) (by omega) (by first | assumption | (exact hpo _) | rfl | decide) (by first | assumption | decide | omega) ?_
    rw [Int.toNat_natCast]
    refine s116_99 rfl ?_
    refine s116_100 (by first | assumption | rfl) (by first | assumption | (exact hpo _) | rfl | decide) ?_
    refine s116_103 rfl ?_
    refine s116_104 (by first | assumption | rfl) (by first | assumption | (exact hpo _) | rfl | decide) (by first | assumption | decide | omega) ?_
    rw [s3]
    refine s116_107 ?_
    refine v_zast d116_108 (by first | assumption | rfl) (by omega) (by omega) (by omega) (by omega) (by first | assumption | (exact hpo _) | rfl | decide) (by first | assumption | decide | omega) ?_
    rw [Int.toNat_natCast]
    refine s116_109 rfl ?_
    refine s116_110 rfl ?_
    refine s116_111 (by first | assumption | rfl) (by first | assumption | (exact hpo _) | rfl | decide) (by first | assumption | decide | omega) ?_
    rw [s4]
    refine s116_114 ?_
    refine s116_115 ?_
    refine s116_116 (by first | assumption | rfl) (by first | assumption | (exact hpo _) | rfl | decide) (by first | assumption | decide | omega) ?_
    refine s116_119 rfl ?_
    refine s116_120 (by first | assumption | rfl) (by first | assumption | (exact hpo _) | rfl | decide) (by first | assumption | decide | omega) ?_
    rw [s5]
    refine s116_123 ?_
    refine s116_124 ?_
    refine s116_125 (st := []) ?_
    rw [show (y.2.2.2.1.length : Int) + 1 - 1 = (y.2.2.2.1.length : Int) by omega]
    refine hY _ _ _ (by omega) rfl (rC4.new hC.2.2.2.1 (by omega) ?_ ?_ ?_) (fun a i q1 q2 => by rw [x_uf_ne (by omega), x_uf_ne (by omega), x_uf_ne (by omega), x_uf_ne (by omega), x_uf_ne (by omega)])
    · rw [x_uf_ne (by omega), x_uf_eq]
    · rw [x_uf_eq, x_uf_ne (by omega), x_uf_ne (by omega), x_uf_ne (by omega), x_uf_ne (by omega), x_uf_ne (by omega), x_uf_eq, x_uf_ne (by omega), x_uf_ne (by omega), x_uf_ne (by omega), x_uf_ne (by omega), x_uf_eq, x_uf_ne (by omega), x_uf_ne (by omega), x_uf_ne (by omega), x_uf_eq, x_uf_ne (by omega), x_uf_ne (by omega), x_uf_eq]
    · exact fun a i q1 q2 => by rw [x_uf_ne (by omega), x_uf_ne (by omega), x_uf_ne (by omega), x_uf_ne (by omega), x_uf_ne (by omega), x_uf_ne (by omega)]
  sorry
end ML
