/-! 57.ordered: the reference carries an order message out. -/
section ML
variable {S : Nat × (Nat → Int32)} {μ : xM} {g : Nat → Nat → Int} {n : Nat} {Q : xQ} {y : yS} {B : Int} {bs : List Int}
/-- the message at hand in the reference: type, number, duplicate, a, b, c -/
def rH (g : Nat → Nat → Int) (t m d a b c : Int) : Prop := g 100 8 = t ∧ g 100 9 = m ∧ g 100 13 = d ∧ g 100 10 = a ∧ g 100 11 = b ∧ g 100 12 = c
theorem rH.f {g' : Nat → Nat → Int} {t m d a b c : Int} (h : rH g t m d a b c) (hF : rF g g') : rH g' t m d a b c := by
  obtain ⟨h1, h2, h3, h4, h5, h6⟩ := h
  exact ⟨(hF _ _ (by omega)).trans h1, (hF _ _ (by omega)).trans h2, (hF _ _ (by omega)).trans h3, (hF _ _ (by omega)).trans h4, (hF _ _ (by omega)).trans h5, (hF _ _ (by omega)).trans h6⟩
theorem rC4.new {g' : Nat → Nat → Int} {l : List yR} {r : yR} (h : rC4 g l) (hk : l.length < 40) (e0 : g' 100 29 = l.length + 1) (er : (g' 109 l.length, g' 110 l.length, g' 111 l.length, g' 112 l.length, g' 113 l.length) = r) (e : ∀ a i, 109 ≤ a ∧ a ≤ 113 → i ≠ l.length → g' a i = g a i) : rC4 g' (l ++ [r]) := by
  refine ⟨by rw [e0, ylen_app]; rfl, by rw [ylen_app]; exact hk, fun i hi => ?_⟩
  rw [ylen_app] at hi
  rw [ygd_app]
  by_cases c : i < l.length
  · rw [if_pos c, e _ _ (by omega) (by omega), e _ _ (by omega) (by omega), e _ _ (by omega) (by omega), e _ _ (by omega) (by omega), e _ _ (by omega) (by omega)]
    exact h.2.2 i c
  · rw [if_neg c, if_pos (by omega), show i = l.length by omega]
    exact er
theorem c116 {t a b c : Int} (hC : rC g y) (hO : yO y) (et : g 100 8 = t) (ea : g 100 10 = a) (eb : g 100 11 = b) (ec : g 100 12 = c) (ht : t = 68 ∨ t = 70 ∨ t = 71) (ha : ib a) (hb : ib b) (hc : ib c)
    (hN : ycarry y t a b c = none → Q (.inl (some (.int (I (-1))))) (x_vm g) n)
    (hY : ∀ (k : Nat) (l : List yR) (gm : Nat → Nat → Int), k < 40 → ycarry y t a b c = some (k, ybook y l (y.2.2.2.2 ++ [a])) → rC4 (x_uf gm 109 k a) l → (∀ a' i, (a' < 109 ∨ 113 < a') → ¬ (a' = 100 ∧ i = 29) → gm a' i = g a' i) → Q (.inl (some (.int (I k)))) (x_vm gm) n) : x_V S 116 0 [some (.ref 100), none] [] (x_vm g) n Q := by
  have hb2 := hb
  have ha2 := ha
  obtain ⟨a1, a2⟩ := ha
  obtain ⟨b1, b2⟩ := hb
  obtain ⟨c1, c2⟩ := hc
  have h40 := hC.2.2.2.1.2.1
  have h29 := hC.2.2.2.1.1
  unfold ycarry at hN hY
  have new : ¬ (a = 0 ∨ a ∈ y.2.2.2.2) → t = 68 → ¬ (b < 1 ∨ 2 < b ∨ c = 0 ∨ 40 ≤ y.2.2.2.1.length) → x_V S 116 63 [some (.ref 100), none] [] (x_vm g) n Q := by
    intro z1 z2 z3
    rw [if_neg z1, if_pos z2, if_neg z3] at hY
    have s1 : x_uf g 110 y.2.2.2.1.length b 100 29 = y.2.2.2.1.length := by rw [x_uf_ne (by omega)]; exact h29
    have s1c : x_uf g 110 y.2.2.2.1.length b 100 12 = c := by rw [x_uf_ne (by omega)]; exact ec
    have s2 : x_uf (x_uf g 110 y.2.2.2.1.length b) 111 y.2.2.2.1.length c 100 29 = y.2.2.2.1.length := by rw [x_uf_ne (by omega)]; exact s1
    have s3 : x_uf (x_uf (x_uf g 110 y.2.2.2.1.length b) 111 y.2.2.2.1.length c) 112 y.2.2.2.1.length 0 100 29 = y.2.2.2.1.length := by rw [x_uf_ne (by omega)]; exact s2
    have s4 : x_uf (x_uf (x_uf (x_uf g 110 y.2.2.2.1.length b) 111 y.2.2.2.1.length c) 112 y.2.2.2.1.length 0) 113 y.2.2.2.1.length 0 100 29 = y.2.2.2.1.length := by rw [x_uf_ne (by omega)]; exact s3
    have s5 : x_uf (x_uf (x_uf (x_uf (x_uf g 110 y.2.2.2.1.length b) 111 y.2.2.2.1.length c) 112 y.2.2.2.1.length 0) 113 y.2.2.2.1.length 0) 100 29 (y.2.2.2.1.length + 1) 100 29 = (y.2.2.2.1.length : Int) + 1 := x_uf_eq _ _ _ _
    refine s116_63 rfl ?_
    refine s116_64 (by first | assumption | rfl) (by first | assumption | (exact hpo _) | rfl | decide) ?_
    refine s116_67 rfl ?_
    refine s116_68 (by first | assumption | rfl) (by first | assumption | (exact hpo _) | rfl | decide) (by first | assumption | decide | omega) ?_
    rw [h29]
    refine s116_71 rfl ?_
    refine s116_72 (by first | assumption | rfl) (by first | assumption | (exact hpo _) | rfl | decide) (by first | assumption | decide | omega) ?_
    rw [eb]
    refine v_iast d116_75 (by first | assumption | rfl) (by omega) (by omega) (by omega) (by first | assumption | (exact hpo _) | rfl | decide) (by first | assumption | decide | omega) ?_
    rw [Int.toNat_natCast]
    refine s116_76 rfl ?_
    refine s116_77 (by first | assumption | rfl) (by first | assumption | (exact hpo _) | rfl | decide) ?_
    refine s116_80 rfl ?_
    refine s116_81 (by first | assumption | rfl) (by first | assumption | (exact hpo _) | rfl | decide) (by first | assumption | decide | omega) ?_
    rw [s1]
    refine s116_84 rfl ?_
    refine s116_85 (by first | assumption | rfl) (by first | assumption | (exact hpo _) | rfl | decide) (by first | assumption | decide | omega) ?_
    rw [s1c]
    refine v_iast d116_88 (by first | assumption | rfl) (by omega) (by omega) (by omega) (by first | assumption | (exact hpo _) | rfl | decide) (by first | assumption | decide | omega) ?_
    rw [Int.toNat_natCast]
    refine s116_89 rfl ?_
    refine s116_90 (by first | assumption | rfl) (by first | assumption | (exact hpo _) | rfl | decide) ?_
    refine s116_93 rfl ?_
    refine s116_94 (by first | assumption | rfl) (by first | assumption | (exact hpo _) | rfl | decide) (by first | assumption | decide | omega) ?_
    rw [s2]
    refine s116_97 ?_
    refine v_iast d116_98 (by first | assumption | rfl) (by omega) (by omega) (by omega) (by first | assumption | (exact hpo _) | rfl | decide) (by first | assumption | decide | omega) ?_
    rw [Int.toNat_natCast]
    refine s116_99 rfl ?_
    refine s116_100 (by first | assumption | rfl) (by first | assumption | (exact hpo _) | rfl | decide) ?_
    refine s116_103 rfl ?_
    refine s116_104 (by first | assumption | rfl) (by first | assumption | (exact hpo _) | rfl | decide) (by first | assumption | decide | omega) ?_
    rw [s3]
    refine s116_107 ?_
    refine v_zast d116_108 (by first | assumption | rfl) (by omega) (by omega) (by omega) (by omega) (by first | assumption | (exact hpo _) | rfl | decide) (by first | assumption | decide | omega) ?_
    rw [Int.toNat_natCast]
    refine s116_109 rfl ?_
    refine s116_110 rfl ?_
    refine s116_111 (by first | assumption | rfl) (by first | assumption | (exact hpo _) | rfl | decide) (by first | assumption | decide | omega) ?_
    rw [s4]
    refine s116_114 ?_
    refine s116_115 ?_
    refine s116_116 (by first | assumption | rfl) (by first | assumption | (exact hpo _) | rfl | decide) (by first | assumption | decide | omega) ?_
    refine s116_119 rfl ?_
    refine s116_120 (by first | assumption | rfl) (by first | assumption | (exact hpo _) | rfl | decide) (by first | assumption | decide | omega) ?_
    rw [s5]
    refine s116_123 ?_
    refine s116_124 ?_
    refine s116_125 (st := []) ?_
    rw [show (y.2.2.2.1.length : Int) + 1 - 1 = (y.2.2.2.1.length : Int) by omega]
    refine hY _ _ _ (by omega) rfl (rC4.new hC.2.2.2.1 (by omega) ?_ ?_ ?_) (fun a i q1 q2 => by rw [x_uf_ne (by omega), x_uf_ne (by omega), x_uf_ne (by omega), x_uf_ne (by omega), x_uf_ne (by omega)])
    · rw [x_uf_ne (by omega), x_uf_eq]
    · rw [x_uf_eq, x_uf_ne (by omega), x_uf_ne (by omega), x_uf_ne (by omega), x_uf_ne (by omega), x_uf_ne (by omega), x_uf_eq, x_uf_ne (by omega), x_uf_ne (by omega), x_uf_ne (by omega), x_uf_ne (by omega), x_uf_eq, x_uf_ne (by omega), x_uf_ne (by omega), x_uf_ne (by omega), x_uf_eq, x_uf_ne (by omega), x_uf_ne (by omega), x_uf_eq]
    · exact fun a i q1 q2 => by rw [x_uf_ne (by omega), x_uf_ne (by omega), x_uf_ne (by omega), x_uf_ne (by omega), x_uf_ne (by omega), x_uf_ne (by omega)]
  have amend : ¬ (a = 0 ∨ a ∈ y.2.2.2.2) → t ≠ 68 → x_V S 116 126 [some (.ref 100), none] [] (x_vm g) n Q := by
    intro z1 z2
    rw [if_neg z1, if_neg z2] at hN hY
    refine s116_126 rfl ?_
    refine s116_127 rfl ?_
    refine s116_128 rfl rfl (by decide) ?_
    rw [eb]
    refine s116_131 rfl (by simp) ?_
    refine c114 hC hO hb2 ?_
    refine ⟨_, rfl, ?_⟩
    by_cases hk : yopen y.2.2.2.1 b < y.2.2.2.1.length
    · rw [if_pos hk]
      generalize yopen y.2.2.2.1 b = k at hk hN hY
      obtain ⟨r0, r1, r2, r3, r4⟩ := hC.2.2.2.1.at hk
      have hbb := hO.1 k hk
      have neg : ¬ (t ≠ 70 ∧ c ≤ (y.2.2.2.1.getD k yE).2.2.2.1) → ¬ (k = y.2.2.2.1.length ∨ (t ≠ 70 ∧ c ≤ (y.2.2.2.1.getD k yE).2.2.2.1)) := fun z w => w.elim (fun w => by omega) z
      refine s116_134 ?_
      refine s116_135 rfl ?_
      refine s116_136 ⟨by omega, by omega⟩ (fun h136 => ?_) (fun h136 => ?_)
      · refine s116_161 ?_
        refine s116_162 (st := []) ?_
        first
          | (exfalso; omega)
          | exact hN (if_pos (Or.inr ⟨by omega, by omega⟩))
      · refine s116_139 rfl ?_
        refine s116_140 (by first | assumption | rfl) (by first | assumption | (exact hpo _) | rfl | decide) (by first | assumption | decide | omega) ?_
        rw [et]
        refine s116_143 ?_
        refine s116_145 ⟨by omega, by omega⟩ ⟨by omega, by omega⟩ (fun h145 => ?_) (fun h145 => ?_)
        · refine s116_163 rfl ?_
          refine s116_164 (by first | assumption | rfl) (by first | assumption | (exact hpo _) | rfl | decide) (by first | assumption | decide | omega) ?_
          rw [et]
          refine s116_167 ?_
          refine s116_169 ⟨by omega, by omega⟩ ⟨by omega, by omega⟩ (fun h169 => ?_) (fun h169 => ?_)
          · refine s116_182 rfl ?_
            refine s116_183 (by first | assumption | rfl) (by first | assumption | (exact hpo _) | rfl | decide) ?_
            refine s116_186 rfl ?_
            refine s116_187 rfl ?_
            refine s116_188 (by first | assumption | rfl) (by first | assumption | (exact hpo _) | rfl | decide) (by first | assumption | decide | omega) ?_
            rw [ec]
            refine v_iast d116_191 (by first | assumption | rfl) (by omega) (by omega) (by omega) (by first | assumption | (exact hpo _) | rfl | decide) (by first | assumption | decide | omega) ?_
            rw [Int.toNat_natCast]
            refine s116_192 rfl ?_
            refine s116_193 (st := []) ?_
            first
              | (exfalso; omega)
              | (refine hY k _ _ (by omega) (if_neg (neg (fun z => by omega))) (rC4.put hC.2.2.2.1 hk (by rw [x_uf_ne (by omega), x_uf_ne (by omega)]) ?_ (fun a i q1 q2 => by rw [x_uf_ne (by omega), x_uf_ne (by omega)])) (fun a i q1 q2 => x_uf_ne (by omega))
                 unfold yamend
                 rw [if_pos (show t = 70 by omega), if_pos (show t = 70 by omega), x_uf_eq, x_uf_ne (by omega), x_uf_ne (by omega), x_uf_ne (by omega), x_uf_ne (by omega), x_uf_ne (by omega), x_uf_ne (by omega), x_uf_ne (by omega), x_uf_eq, r1, r2, r3])
              | (refine hY k _ _ (by omega) (if_neg (neg (fun z => by omega))) (rC4.put hC.2.2.2.1 hk (by rw [x_uf_ne (by omega), x_uf_ne (by omega)]) ?_ (fun a i q1 q2 => by rw [x_uf_ne (by omega), x_uf_ne (by omega)])) (fun a i q1 q2 => x_uf_ne (by omega))
                 unfold yamend
                 rw [if_neg (show ¬ t = 70 by omega), if_neg (show ¬ t = 70 by omega), x_uf_eq, x_uf_ne (by omega), x_uf_ne (by omega), x_uf_ne (by omega), x_uf_eq, x_uf_ne (by omega), x_uf_ne (by omega), x_uf_ne (by omega), x_uf_ne (by omega), r1, r3, r4])
          · refine s116_172 rfl ?_
            refine s116_173 (by first | assumption | rfl) (by first | assumption | (exact hpo _) | rfl | decide) ?_
            refine s116_176 rfl ?_
            refine s116_177 ?_
            refine v_zast d116_178 (by first | assumption | rfl) (by omega) (by omega) (by omega) (by omega) (by first | assumption | (exact hpo _) | rfl | decide) (by first | assumption | decide | omega) ?_
            rw [Int.toNat_natCast]
            refine s116_179 ?_
            refine s116_192 rfl ?_
            refine s116_193 (st := []) ?_
            first
              | (exfalso; omega)
              | (refine hY k _ _ (by omega) (if_neg (neg (fun z => by omega))) (rC4.put hC.2.2.2.1 hk (by rw [x_uf_ne (by omega), x_uf_ne (by omega)]) ?_ (fun a i q1 q2 => by rw [x_uf_ne (by omega), x_uf_ne (by omega)])) (fun a i q1 q2 => x_uf_ne (by omega))
                 unfold yamend
                 rw [if_pos (show t = 70 by omega), if_pos (show t = 70 by omega), x_uf_eq, x_uf_ne (by omega), x_uf_ne (by omega), x_uf_ne (by omega), x_uf_ne (by omega), x_uf_ne (by omega), x_uf_ne (by omega), x_uf_ne (by omega), x_uf_eq, r1, r2, r3])
              | (refine hY k _ _ (by omega) (if_neg (neg (fun z => by omega))) (rC4.put hC.2.2.2.1 hk (by rw [x_uf_ne (by omega), x_uf_ne (by omega)]) ?_ (fun a i q1 q2 => by rw [x_uf_ne (by omega), x_uf_ne (by omega)])) (fun a i q1 q2 => x_uf_ne (by omega))
                 unfold yamend
                 rw [if_neg (show ¬ t = 70 by omega), if_neg (show ¬ t = 70 by omega), x_uf_eq, x_uf_ne (by omega), x_uf_ne (by omega), x_uf_ne (by omega), x_uf_eq, x_uf_ne (by omega), x_uf_ne (by omega), x_uf_ne (by omega), x_uf_ne (by omega), r1, r3, r4])
        · refine s116_148 rfl ?_
          refine s116_149 (by first | assumption | rfl) (by first | assumption | (exact hpo _) | rfl | decide) (by first | assumption | decide | omega) ?_
          rw [ec]
          refine s116_152 rfl ?_
          refine s116_153 (by first | assumption | rfl) (by first | assumption | (exact hpo _) | rfl | decide) ?_
          refine s116_156 rfl ?_
          refine v_iald d116_157 (by first | assumption | rfl) (by omega) (by omega) (by omega) (by first | assumption | (exact hpo _) | rfl | decide) (by first | assumption | decide | omega) ?_
          rw [Int.toNat_natCast, r3]
          refine s116_158 ⟨by omega, by omega⟩ ⟨by omega, by omega⟩ (fun h158 => ?_) (fun h158 => ?_)
          · refine s116_163 rfl ?_
            refine s116_164 (by first | assumption | rfl) (by first | assumption | (exact hpo _) | rfl | decide) (by first | assumption | decide | omega) ?_
            rw [et]
            refine s116_167 ?_
            refine s116_169 ⟨by omega, by omega⟩ ⟨by omega, by omega⟩ (fun h169 => ?_) (fun h169 => ?_)
            · refine s116_182 rfl ?_
              refine s116_183 (by first | assumption | rfl) (by first | assumption | (exact hpo _) | rfl | decide) ?_
              refine s116_186 rfl ?_
              refine s116_187 rfl ?_
              refine s116_188 (by first | assumption | rfl) (by first | assumption | (exact hpo _) | rfl | decide) (by first | assumption | decide | omega) ?_
              rw [ec]
              refine v_iast d116_191 (by first | assumption | rfl) (by omega) (by omega) (by omega) (by first | assumption | (exact hpo _) | rfl | decide) (by first | assumption | decide | omega) ?_
              rw [Int.toNat_natCast]
              refine s116_192 rfl ?_
              refine s116_193 (st := []) ?_
              first
                | (exfalso; omega)
                | (refine hY k _ _ (by omega) (if_neg (neg (fun z => by omega))) (rC4.put hC.2.2.2.1 hk (by rw [x_uf_ne (by omega), x_uf_ne (by omega)]) ?_ (fun a i q1 q2 => by rw [x_uf_ne (by omega), x_uf_ne (by omega)])) (fun a i q1 q2 => x_uf_ne (by omega))
                   unfold yamend
                   rw [if_pos (show t = 70 by omega), if_pos (show t = 70 by omega), x_uf_eq, x_uf_ne (by omega), x_uf_ne (by omega), x_uf_ne (by omega), x_uf_ne (by omega), x_uf_ne (by omega), x_uf_ne (by omega), x_uf_ne (by omega), x_uf_eq, r1, r2, r3])
                | (refine hY k _ _ (by omega) (if_neg (neg (fun z => by omega))) (rC4.put hC.2.2.2.1 hk (by rw [x_uf_ne (by omega), x_uf_ne (by omega)]) ?_ (fun a i q1 q2 => by rw [x_uf_ne (by omega), x_uf_ne (by omega)])) (fun a i q1 q2 => x_uf_ne (by omega))
                   unfold yamend
                   rw [if_neg (show ¬ t = 70 by omega), if_neg (show ¬ t = 70 by omega), x_uf_eq, x_uf_ne (by omega), x_uf_ne (by omega), x_uf_ne (by omega), x_uf_eq, x_uf_ne (by omega), x_uf_ne (by omega), x_uf_ne (by omega), x_uf_ne (by omega), r1, r3, r4])
            · refine s116_172 rfl ?_
              refine s116_173 (by first | assumption | rfl) (by first | assumption | (exact hpo _) | rfl | decide) ?_
              refine s116_176 rfl ?_
              refine s116_177 ?_
              refine v_zast d116_178 (by first | assumption | rfl) (by omega) (by omega) (by omega) (by omega) (by first | assumption | (exact hpo _) | rfl | decide) (by first | assumption | decide | omega) ?_
              rw [Int.toNat_natCast]
              refine s116_179 ?_
              refine s116_192 rfl ?_
              refine s116_193 (st := []) ?_
              first
                | (exfalso; omega)
                | (refine hY k _ _ (by omega) (if_neg (neg (fun z => by omega))) (rC4.put hC.2.2.2.1 hk (by rw [x_uf_ne (by omega), x_uf_ne (by omega)]) ?_ (fun a i q1 q2 => by rw [x_uf_ne (by omega), x_uf_ne (by omega)])) (fun a i q1 q2 => x_uf_ne (by omega))
                   unfold yamend
                   rw [if_pos (show t = 70 by omega), if_pos (show t = 70 by omega), x_uf_eq, x_uf_ne (by omega), x_uf_ne (by omega), x_uf_ne (by omega), x_uf_ne (by omega), x_uf_ne (by omega), x_uf_ne (by omega), x_uf_ne (by omega), x_uf_eq, r1, r2, r3])
                | (refine hY k _ _ (by omega) (if_neg (neg (fun z => by omega))) (rC4.put hC.2.2.2.1 hk (by rw [x_uf_ne (by omega), x_uf_ne (by omega)]) ?_ (fun a i q1 q2 => by rw [x_uf_ne (by omega), x_uf_ne (by omega)])) (fun a i q1 q2 => x_uf_ne (by omega))
                   unfold yamend
                   rw [if_neg (show ¬ t = 70 by omega), if_neg (show ¬ t = 70 by omega), x_uf_eq, x_uf_ne (by omega), x_uf_ne (by omega), x_uf_ne (by omega), x_uf_eq, x_uf_ne (by omega), x_uf_ne (by omega), x_uf_ne (by omega), x_uf_ne (by omega), r1, r3, r4])
          · refine s116_161 ?_
            refine s116_162 (st := []) ?_
            first
              | (exfalso; omega)
              | exact hN (if_pos (Or.inr ⟨by omega, by omega⟩))
    · rw [if_neg hk]
      have hk2 : yopen y.2.2.2.1 b = y.2.2.2.1.length := by
        have : yopen y.2.2.2.1 b ≤ y.2.2.2.1.length := List.findIdx_le_length
        omega
      refine s116_134 ?_
      refine s116_135 rfl ?_
      refine s116_136 ⟨by omega, by omega⟩ (fun h136 => ?_) (fun h136 => ?_)
      · refine s116_161 ?_
        refine s116_162 (st := []) ?_
        exact hN (if_pos (Or.inl hk2))
      · exfalso; omega
  refine s116_0 rfl ?_
  refine s116_1 (by first | assumption | rfl) (by first | assumption | (exact hpo _) | rfl | decide) (by first | assumption | decide | omega) ?_
  rw [ea]
  refine s116_4 ⟨by omega, by omega⟩ (fun h4 => ?_) (fun h4 => ?_)
  · refine s116_18 ?_
    refine s116_19 (st := []) ?_
    refine hN ?_
    first
      | exact if_pos (Or.inl (by omega))
      | exact if_pos (Or.inr (hz1 (by omega)))
  · refine s116_7 rfl ?_
    refine s116_8 rfl ?_
    refine s116_9 (by first | assumption | rfl) (by first | assumption | (exact hpo _) | rfl | decide) (by first | assumption | decide | omega) ?_
    rw [ea]
    refine s116_12 (by first | assumption | rfl) (by simp) ?_
    refine c112 hC hO ha2 ?_
    refine ⟨_, rfl, ?_⟩
    have hz0 : (if a ∈ y.2.2.2.2 then (1 : Int) else 0) = 0 → a ∉ y.2.2.2.2 := fun e q => by rw [if_pos q] at e; omega
    have hz1 : (if a ∈ y.2.2.2.2 then (1 : Int) else 0) ≠ 0 → a ∈ y.2.2.2.2 := fun e => Classical.byContradiction fun q => e (if_neg q)
    have hz2 : (if a ∈ y.2.2.2.2 then (1 : Int) else 0) = 0 ∨ (if a ∈ y.2.2.2.2 then (1 : Int) else 0) = 1 := by
      split
      · exact Or.inr rfl
      · exact Or.inl rfl
    generalize (if a ∈ y.2.2.2.2 then (1 : Int) else 0) = z at hz0 hz1 hz2
    refine s116_15 ⟨by omega, by omega⟩ (fun h15 => ?_) (fun h15 => ?_)
    · refine s116_20 rfl ?_
      refine s116_21 (by first | assumption | rfl) (by first | assumption | (exact hpo _) | rfl | decide) (by first | assumption | decide | omega) ?_
      rw [et]
      refine s116_24 ?_
      refine s116_26 ⟨by omega, by omega⟩ ⟨by omega, by omega⟩ (fun h26 => ?_) (fun h26 => ?_)
      · exact amend (fun q => q.elim (by omega) (hz0 (by omega))) (by omega)
      · refine s116_29 rfl ?_
        refine s116_30 (by first | assumption | rfl) (by first | assumption | (exact hpo _) | rfl | decide) (by first | assumption | decide | omega) ?_
        rw [eb]
        refine s116_33 ?_
        refine s116_34 ⟨by omega, by omega⟩ ⟨by omega, by omega⟩ (fun h34 => ?_) (fun h34 => ?_)
        · refine s116_61 ?_
          refine s116_62 (st := []) ?_
          rw [if_neg (fun q : a = 0 ∨ a ∈ y.2.2.2.2 => q.elim (by omega) (hz0 (by omega))), if_pos (show t = 68 by omega)] at hN
          exact hN (if_pos (by omega))
        · refine s116_37 rfl ?_
          refine s116_38 (by first | assumption | rfl) (by first | assumption | (exact hpo _) | rfl | decide) (by first | assumption | decide | omega) ?_
          rw [eb]
          refine s116_41 ?_
          refine s116_42 ⟨by omega, by omega⟩ ⟨by omega, by omega⟩ (fun h42 => ?_) (fun h42 => ?_)
          · refine s116_61 ?_
            refine s116_62 (st := []) ?_
            rw [if_neg (fun q : a = 0 ∨ a ∈ y.2.2.2.2 => q.elim (by omega) (hz0 (by omega))), if_pos (show t = 68 by omega)] at hN
            exact hN (if_pos (by omega))
          · refine s116_45 rfl ?_
            refine s116_46 (by first | assumption | rfl) (by first | assumption | (exact hpo _) | rfl | decide) (by first | assumption | decide | omega) ?_
            rw [ec]
            refine s116_49 ⟨by omega, by omega⟩ (fun h49 => ?_) (fun h49 => ?_)
            · refine s116_61 ?_
              refine s116_62 (st := []) ?_
              rw [if_neg (fun q : a = 0 ∨ a ∈ y.2.2.2.2 => q.elim (by omega) (hz0 (by omega))), if_pos (show t = 68 by omega)] at hN
              exact hN (if_pos (by omega))
            · refine s116_52 rfl ?_
              refine s116_53 (by first | assumption | rfl) (by first | assumption | (exact hpo _) | rfl | decide) (by first | assumption | decide | omega) ?_
              rw [h29]
              refine s116_56 ?_
              refine s116_58 ⟨by omega, by omega⟩ ⟨by omega, by omega⟩ (fun h58 => ?_) (fun h58 => ?_)
              · exact new (fun q => q.elim (by omega) (hz0 (by omega))) (by omega) (by omega)
              · refine s116_61 ?_
                refine s116_62 (st := []) ?_
                rw [if_neg (fun q : a = 0 ∨ a ∈ y.2.2.2.2 => q.elim (by omega) (hz0 (by omega))), if_pos (show t = 68 by omega)] at hN
                exact hN (if_pos (by omega))
    · refine s116_18 ?_
      refine s116_19 (st := []) ?_
      refine hN ?_
      first
        | exact if_pos (Or.inl (by omega))
        | exact if_pos (Or.inr (hz1 (by omega)))
end ML
