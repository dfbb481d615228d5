/-! 60.cut: the reference cuts the frame into fields. -/
section MP
variable {S : Nat × (Nat → Int32)} {μ : xM} {g : Nat → Nat → Int} {n : Nat} {Q : xQ} {f : Int → Int} {sz : Int}
/-- the bytes as the reference sees them -/
def tF (g : Nat → Nat → Int) (f : Int → Int) (sz : Int) : Prop := g 100 2 = sz ∧ (0 ≤ sz ∧ sz ≤ 120) ∧ (∀ p : Int, 0 ≤ p → p < sz → g 101 p.toNat = f p) ∧ (∀ p, -1 ≤ f p ∧ f p ≤ 127) ∧ ∀ p, (0 ≤ p ∧ p < sz ∧ 0 ≤ f p) ∨ (f p = -1 ∧ ¬ (0 ≤ p ∧ p < sz))
def tdl (f : Int → Int) : Nat → Int → Int → Int × Int
  | 0, v, k => (v, k)
  | d + 1, v, k => if 48 ≤ f k ∧ f k ≤ 57 then tdl f d (10 * v + f k - 48) (k + 1) else (v, k)
def tTG (f : Int → Int) (p t a : Int) : Prop := ∃ q, tdl f 4 0 p = (t, q) ∧ q ≠ p ∧ f p ≠ 48 ∧ f q = 61 ∧ a = q + 1
def tVL (f : Int → Int) (a b : Int) : Prop := a < b ∧ f b = 1 ∧ ∀ j, a ≤ j → j < b → 33 ≤ f j ∧ f j ≤ 126
abbrev tK := Int × Int × Int
abbrev tD : tK := (0, 0, 0)
def tCH (f : Int → Int) (sz : Int) : Int → List tK → Prop
  | p, [] => p = sz
  | p, x :: l => tTG f p x.1 x.2.1 ∧ tVL f x.2.1 x.2.2 ∧ tCH f sz (x.2.2 + 1) l
theorem tTG.u {p t a t' a' : Int} (h : tTG f p t a) (h' : tTG f p t' a') : t = t' ∧ a = a' := by
  obtain ⟨q, h1, h2, h3, h4, h5⟩ := h
  obtain ⟨q', k1, k2, k3, k4, k5⟩ := h'
  rw [h1] at k1
  obtain ⟨e1, e2⟩ := Prod.mk.inj k1
  exact ⟨e1, by omega⟩
theorem tVL.u {a b b' : Int} (h : tVL f a b) (h1 : a ≤ b') (h2 : ∀ j, a ≤ j → j < b' → 33 ≤ f j ∧ f j ≤ 126) (h3 : ¬ (33 ≤ f b' ∧ f b' ≤ 126)) : b = b' := by
  obtain ⟨k1, k2, k3⟩ := h
  rcases Int.lt_trichotomy b b' with q | q | q
  · have := h2 b (by omega) q
    omega
  · exact q
  · exact absurd (k3 b' h1 q) h3
/-- the fields found so far -/
def tT (g : Nat → Nat → Int) (l : List tK) : Prop := g 100 4 = l.length ∧ ∀ i, i < l.length → g 102 i = (l.getD i tD).1 ∧ g 103 i = (l.getD i tD).2.1 ∧ g 104 i = (l.getD i tD).2.2
def tU (g g' : Nat → Nat → Int) : Prop := ∀ a i, a ≠ 102 → a ≠ 103 → a ≠ 104 → ¬ (a = 100 ∧ i = 4) → g' a i = g a i
theorem tU.rf : tU g g := fun _ _ _ _ _ _ => rfl
theorem tU.tr {g1 g2 : Nat → Nat → Int} (h1 : tU g g1) (h2 : tU g1 g2) : tU g g2 := fun a i q1 q2 q3 q4 => (h2 a i q1 q2 q3 q4).trans (h1 a i q1 q2 q3 q4)
theorem tU.cF {g1 : Nat → Nat → Int} (h : tU g g1) (hF : tF g f sz) : tF g1 f sz :=
  ⟨by rw [h _ _ (by omega) (by omega) (by omega) (by omega)]; exact hF.1, hF.2.1, fun p h1 h2 => by rw [h _ _ (by omega) (by omega) (by omega) (by omega)]; exact hF.2.2.1 p h1 h2, hF.2.2.2⟩
theorem tT.app {l : List tK} {t a b : Int} (h : tT g l) : tT (x_uf (x_uf (x_uf (x_uf g 102 l.length t) 103 l.length a) 104 l.length b) 100 4 ((l.length : Int) + 1)) (l ++ [(t, a, b)]) := by
  refine ⟨by rw [x_uf_eq, ylen_app]; omega, fun i hi => ?_⟩
  rw [ylen_app] at hi
  rw [ygd_app]
  by_cases c : i < l.length
  · rw [if_pos c]
    obtain ⟨e1, e2, e3⟩ := h.2 i c
    refine ⟨?_, ?_, ?_⟩
    · rw [x_uf_ne (by omega), x_uf_ne (by omega), x_uf_ne (by omega), x_uf_ne (by omega)]; exact e1
    · rw [x_uf_ne (by omega), x_uf_ne (by omega), x_uf_ne (by omega), x_uf_ne (by omega)]; exact e2
    · rw [x_uf_ne (by omega), x_uf_ne (by omega), x_uf_ne (by omega), x_uf_ne (by omega)]; exact e3
  · have e : i = l.length := by omega
    rw [if_neg c, if_pos e, e]
    refine ⟨?_, ?_, ?_⟩
    · rw [x_uf_ne (by omega), x_uf_ne (by omega), x_uf_ne (by omega), x_uf_eq]
    · rw [x_uf_ne (by omega), x_uf_ne (by omega), x_uf_eq]
    · rw [x_uf_ne (by omega), x_uf_eq]
theorem tU.ap {c : Nat} {t a b z : Int} : tU g (x_uf (x_uf (x_uf (x_uf g 102 c t) 103 c a) 104 c b) 100 4 z) := fun a i q1 q2 q3 q4 => by
  rw [x_uf_ne (by omega), x_uf_ne (by omega), x_uf_ne (by omega), x_uf_ne (by omega)]
/-- the digits of a tag -/
theorem l107d {b0 : Int} {w4 : Option Value} (hF : tF g f sz) (h0 : 0 ≤ b0 ∧ b0 < sz)
    (h : ∀ v k : Int, tdl f 4 0 b0 = (v, k) → b0 ≤ k → k ≤ b0 + 4 → k ≤ sz → 0 ≤ v → v ≤ 9999 → x_V S 107 67 [some (.ref 100), some (.int (I k)), some (.int (I v)), some (.int (I b0)), w4] [] (x_vm g) n Q) :
    ∀ (d : Nat) (v k : Int), k - b0 + d = 4 → b0 ≤ k → k ≤ sz → 0 ≤ v → v < 10 ^ (4 - d) → tdl f 4 0 b0 = tdl f d v k → x_V S 107 19 [some (.ref 100), some (.int (I k)), some (.int (I v)), some (.int (I b0)), w4] [] (x_vm g) n Q := by
  obtain ⟨k2, hs, hfr, hb, ho⟩ := hF
  intro d
  induction d with
  | zero =>
    intro v k h1 h2 h3 h4 h5 e
    have e5 : (10 : Int) ^ (4 - 0) = 10000 := by decide
    have hbk := hb k
    rw [show tdl f 0 v k = (v, k) from rfl] at e
    refine s107_19 rfl ?_
    refine s107_20 rfl ?_
    refine s107_21 (by first | assumption | rfl) (by first | assumption | (exact hpo _) | rfl | decide) (by first | assumption | decide | omega) ?_
    refine s107_24 ⟨by omega, by omega⟩ ⟨by omega, by omega⟩ (fun h24 => ?_) (fun h24 => ?_)
    · exact h v k e (by omega) (by omega) (by omega) (by omega) (by omega)
    · refine s107_27 rfl ?_
      refine s107_28 (by first | assumption | rfl) (by first | assumption | (exact hpo _) | rfl | decide) ?_
      refine s107_31 rfl ?_
      refine v_iald d107_32 (by first | assumption | rfl) (by omega) (by omega) (by omega) (by first | assumption | (exact hpo _) | rfl | decide) (by first | assumption | decide | omega) ?_
      rw [hfr k (by omega) (by omega)]
      refine s107_33 (by simp) ?_
      refine c106 ⟨by omega, by omega⟩ ?_
      refine ⟨_, rfl, ?_⟩
      generalize ez : (if 48 ≤ f k ∧ f k ≤ 57 then (1 : Int) else 0) = zz
      have hz : (zz = 1 ∧ (48 ≤ f k ∧ f k ≤ 57)) ∨ (zz = 0 ∧ ¬ (48 ≤ f k ∧ f k ≤ 57)) := by
        rw [← ez]
        split
        · exact Or.inl ⟨rfl, by assumption⟩
        · exact Or.inr ⟨rfl, by assumption⟩
      refine s107_36 ⟨by omega, by omega⟩ (fun h36 => ?_) (fun h36 => ?_)
      · exact h v k e (by omega) (by omega) (by omega) (by omega) (by omega)
      · refine s107_39 rfl ?_
        refine s107_40 rfl ?_
        refine s107_41 ?_
        refine s107_42 ?_
        refine s107_43 ⟨by omega, by omega⟩ ⟨by omega, by omega⟩ (fun h43 => ?_) (fun h43 => ?_)
        · exact h v k e (by omega) (by omega) (by omega) (by omega) (by omega)
        · exfalso; omega
  | succ d ih =>
    intro v k h1 h2 h3 h4 h5 e
    have e2 : (10 : Int) ^ (4 - (d + 1)) ≤ 1000 := by
      have : ∀ j : Nat, j ≤ 3 → (10 : Int) ^ j ≤ 1000 := by decide
      exact this _ (by omega)
    have e3 : (10 : Int) ^ (4 - d) = 10 * 10 ^ (4 - (d + 1)) := by
      rw [show 4 - d = (4 - (d + 1)) + 1 by omega, Int.pow_succ]
      omega
    have hbk := hb k
    have hok := ho k
    rw [show tdl f (d + 1) v k = (if 48 ≤ f k ∧ f k ≤ 57 then tdl f d (10 * v + f k - 48) (k + 1) else (v, k)) from rfl] at e
    refine s107_19 rfl ?_
    refine s107_20 rfl ?_
    refine s107_21 (by first | assumption | rfl) (by first | assumption | (exact hpo _) | rfl | decide) (by first | assumption | decide | omega) ?_
    refine s107_24 ⟨by omega, by omega⟩ ⟨by omega, by omega⟩ (fun h24 => ?_) (fun h24 => ?_)
    · first
        | (exfalso; omega)
        | (rw [if_neg (show ¬ (48 ≤ f k ∧ f k ≤ 57) by omega)] at e; exact h v k e (by omega) (by omega) (by omega) (by omega) (by omega))
    · refine s107_27 rfl ?_
      refine s107_28 (by first | assumption | rfl) (by first | assumption | (exact hpo _) | rfl | decide) ?_
      refine s107_31 rfl ?_
      refine v_iald d107_32 (by first | assumption | rfl) (by omega) (by omega) (by omega) (by first | assumption | (exact hpo _) | rfl | decide) (by first | assumption | decide | omega) ?_
      rw [hfr k (by omega) (by omega)]
      refine s107_33 (by simp) ?_
      refine c106 ⟨by omega, by omega⟩ ?_
      refine ⟨_, rfl, ?_⟩
      generalize ez : (if 48 ≤ f k ∧ f k ≤ 57 then (1 : Int) else 0) = zz
      have hz : (zz = 1 ∧ (48 ≤ f k ∧ f k ≤ 57)) ∨ (zz = 0 ∧ ¬ (48 ≤ f k ∧ f k ≤ 57)) := by
        rw [← ez]
        split
        · exact Or.inl ⟨rfl, by assumption⟩
        · exact Or.inr ⟨rfl, by assumption⟩
      refine s107_36 ⟨by omega, by omega⟩ (fun h36 => ?_) (fun h36 => ?_)
      · first
          | (exfalso; omega)
          | (rw [if_neg (show ¬ (48 ≤ f k ∧ f k ≤ 57) by omega)] at e; exact h v k e (by omega) (by omega) (by omega) (by omega) (by omega))
      · refine s107_39 rfl ?_
        refine s107_40 rfl ?_
        refine s107_41 ?_
        refine s107_42 ?_
        refine s107_43 ⟨by omega, by omega⟩ ⟨by omega, by omega⟩ (fun h43 => ?_) (fun h43 => ?_)
        · first
            | (exfalso; omega)
            | (rw [if_neg (show ¬ (48 ≤ f k ∧ f k ≤ 57) by omega)] at e; exact h v k e (by omega) (by omega) (by omega) (by omega) (by omega))
        · refine s107_46 ?_
          refine s107_48 rfl ?_
          refine s107_49 ?_
          refine s107_50 rfl ?_
          refine s107_51 (by first | assumption | rfl) (by first | assumption | (exact hpo _) | rfl | decide) ?_
          refine s107_54 rfl ?_
          refine v_iald d107_55 (by first | assumption | rfl) (by omega) (by omega) (by omega) (by first | assumption | (exact hpo _) | rfl | decide) (by first | assumption | decide | omega) ?_
          rw [hfr k (by omega) (by omega)]
          refine s107_56 ?_
          refine s107_57 ?_
          refine s107_59 ?_
          refine s107_60 ?_
          refine s107_61 rfl ?_
          refine s107_64 ?_
          rw [if_pos (show 48 ≤ f k ∧ f k ≤ 57 by omega)] at e
          exact ih _ _ (by omega) (by omega) (by omega) (by omega) (by omega) e
/-- the bytes of a value -/
theorem l107v {a0 : Int} {w2 w3 : Option Value} (hF : tF g f sz) (h0 : 0 ≤ a0 ∧ a0 ≤ sz)
    (h : ∀ k : Int, a0 ≤ k → k ≤ sz → (∀ j, a0 ≤ j → j < k → 33 ≤ f j ∧ f j ≤ 126) → ¬ (33 ≤ f k ∧ f k ≤ 126) → x_V S 107 146 [some (.ref 100), some (.int (I k)), w2, w3, some (.int (I a0))] [] (x_vm g) n Q) :
    ∀ (d : Nat) (k : Int), k + d = sz → a0 ≤ k → (∀ j, a0 ≤ j → j < k → 33 ≤ f j ∧ f j ≤ 126) → x_V S 107 110 [some (.ref 100), some (.int (I k)), w2, w3, some (.int (I a0))] [] (x_vm g) n Q := by
  obtain ⟨k2, hs, hfr, hb, ho⟩ := hF
  intro d
  induction d with
  | zero =>
    intro k h1 h2 h3
    have hok := ho k
    refine s107_110 rfl ?_
    refine s107_111 rfl ?_
    refine s107_112 (by first | assumption | rfl) (by first | assumption | (exact hpo _) | rfl | decide) (by first | assumption | decide | omega) ?_
    refine s107_115 ⟨by omega, by omega⟩ ⟨by omega, by omega⟩ (fun h115 => ?_) (fun h115 => ?_)
    · exact h k (by omega) (by omega) h3 (by omega)
    · exfalso; omega
  | succ d ih =>
    intro k h1 h2 h3
    have hbk := hb k
    have hok := ho k
    refine s107_110 rfl ?_
    refine s107_111 rfl ?_
    refine s107_112 (by first | assumption | rfl) (by first | assumption | (exact hpo _) | rfl | decide) (by first | assumption | decide | omega) ?_
    refine s107_115 ⟨by omega, by omega⟩ ⟨by omega, by omega⟩ (fun h115 => ?_) (fun h115 => ?_)
    · first
        | (exfalso; omega)
        | (exact h k (by omega) (by omega) h3 (by omega))
    · refine s107_118 rfl ?_
      refine s107_119 (by first | assumption | rfl) (by first | assumption | (exact hpo _) | rfl | decide) ?_
      refine s107_122 rfl ?_
      refine v_iald d107_123 (by first | assumption | rfl) (by omega) (by omega) (by omega) (by first | assumption | (exact hpo _) | rfl | decide) (by first | assumption | decide | omega) ?_
      rw [hfr k (by omega) (by omega)]
      refine s107_124 ?_
      refine s107_126 ⟨by omega, by omega⟩ ⟨by omega, by omega⟩ (fun h126 => ?_) (fun h126 => ?_)
      · first
          | (exfalso; omega)
          | (exact h k (by omega) (by omega) h3 (by omega))
      · refine s107_129 rfl ?_
        refine s107_130 (by first | assumption | rfl) (by first | assumption | (exact hpo _) | rfl | decide) ?_
        refine s107_133 rfl ?_
        refine v_iald d107_134 (by first | assumption | rfl) (by omega) (by omega) (by omega) (by first | assumption | (exact hpo _) | rfl | decide) (by first | assumption | decide | omega) ?_
        rw [hfr k (by omega) (by omega)]
        refine s107_135 ?_
        refine s107_137 ⟨by omega, by omega⟩ ⟨by omega, by omega⟩ (fun h137 => ?_) (fun h137 => ?_)
        · first
            | (exfalso; omega)
            | (exact h k (by omega) (by omega) h3 (by omega))
        · refine s107_140 rfl ?_
          refine s107_143 ?_
          refine ih _ (by omega) (by omega) (fun j q1 q2 => ?_)
          by_cases q : j = k
          · rw [q]; omega
          · exact h3 j q1 (by omega)
theorem l107 : ∀ (N : Nat) (g : Nat → Nat → Int) (k : Int) (l : List tK) (w2 w3 w4 : Option Value), k + N ≥ sz → 0 ≤ k → k ≤ sz → 4 * (l.length : Int) ≤ k → tF g f sz → tT g l →
    (∀ l2 g', tCH f sz k l2 → tU g g' → tT g' (l ++ l2) → Q (.inl (some (.int (I 1)))) (x_vm g') n) → ((∀ l2, ¬ tCH f sz k l2) → ∀ g', tU g g' → Q (.inl (some (.int (I 0)))) (x_vm g') n) →
    x_V S 107 7 [some (.ref 100), some (.int (I k)), w2, w3, w4] [] (x_vm g) n Q := by
  intro N
  induction N with
  | zero =>
    intro g k l w2 w3 w4 h1 h2 h3 h4 hF hT hY hN
    have k2 := hF.1
    have hs := hF.2.1
    refine s107_7 rfl ?_
    refine s107_8 rfl ?_
    refine s107_9 (by first | assumption | rfl) (by first | assumption | (exact hpo _) | rfl | decide) (by first | assumption | decide | omega) ?_
    refine s107_12 ⟨by omega, by omega⟩ ⟨by omega, by omega⟩ (fun h12 => ?_) (fun h12 => ?_)
    · refine s107_219 ?_
      refine s107_220 (st := []) (by omega) ?_
      exact hY [] g (show k = sz by omega) tU.rf (by rw [List.append_nil]; exact hT)
    · exfalso; omega
  | succ N ih =>
    intro g k l w2 w3 w4 h1 h2 h3 h4 hF hT hY hN
    have hF0 := hF
    obtain ⟨k2, hs, hfr, hb, ho⟩ := hF
    have fin : ∀ v q b : Int, tTG f k v q → k + 2 ≤ q → tVL f q b → b < sz → x_V S 107 172 [some (.ref 100), some (.int (I b)), some (.int (I v)), some (.int (I k)), some (.int (I q))] [] (x_vm g) n Q := by
      intro v q b hg hq hv hbs
      have hv1 := hv.1
      have e4 := hT.1
      refine s107_172 rfl ?_
      refine s107_173 (by first | assumption | rfl) (by first | assumption | (exact hpo _) | rfl | decide) ?_
      refine s107_176 rfl ?_
      refine s107_177 (by first | assumption | rfl) (by first | assumption | (exact hpo _) | rfl | decide) (by first | assumption | decide | omega) ?_
      rw [e4]
      refine s107_180 rfl ?_
      refine v_iast d107_181 (by first | assumption | rfl) (by omega) (by omega) (by omega) (by first | assumption | (exact hpo _) | rfl | decide) (by first | assumption | decide | omega) ?_
      rw [Int.toNat_natCast]
      refine s107_182 rfl ?_
      refine s107_183 (by first | assumption | rfl) (by first | assumption | (exact hpo _) | rfl | decide) ?_
      refine s107_186 rfl ?_
      refine s107_187 (by first | assumption | rfl) (by first | assumption | (exact hpo _) | rfl | decide) (by first | assumption | decide | omega) ?_
      rw [x_uf_ne (by omega), e4]
      refine s107_190 rfl ?_
      refine v_iast d107_192 (by first | assumption | rfl) (by omega) (by omega) (by omega) (by first | assumption | (exact hpo _) | rfl | decide) (by first | assumption | decide | omega) ?_
      rw [Int.toNat_natCast]
      refine s107_193 rfl ?_
      refine s107_194 (by first | assumption | rfl) (by first | assumption | (exact hpo _) | rfl | decide) ?_
      refine s107_197 rfl ?_
      refine s107_198 (by first | assumption | rfl) (by first | assumption | (exact hpo _) | rfl | decide) (by first | assumption | decide | omega) ?_
      rw [x_uf_ne (by omega), x_uf_ne (by omega), e4]
      refine s107_201 rfl ?_
      refine v_iast d107_202 (by first | assumption | rfl) (by omega) (by omega) (by omega) (by first | assumption | (exact hpo _) | rfl | decide) (by first | assumption | decide | omega) ?_
      rw [Int.toNat_natCast]
      refine s107_203 rfl ?_
      refine s107_204 rfl ?_
      refine s107_205 (by first | assumption | rfl) (by first | assumption | (exact hpo _) | rfl | decide) (by first | assumption | decide | omega) ?_
      rw [x_uf_ne (by omega), x_uf_ne (by omega), x_uf_ne (by omega), e4]
      refine s107_208 ?_
      refine s107_209 ?_
      refine s107_210 (by first | assumption | rfl) (by first | assumption | (exact hpo _) | rfl | decide) (by first | assumption | decide | omega) ?_
      refine s107_213 rfl ?_
      refine s107_216 ?_
      refine ih _ (b + 1) (l ++ [(v, q, b)]) _ _ _ (by omega) (by omega) (by omega) (by rw [ylen_app]; omega) (tU.ap.cF hF0) hT.app (fun l2 g' a1 a2 a3 => ?_) (fun a1 g' a2 => ?_)
      · exact hY ((v, q, b) :: l2) g' ⟨hg, hv, a1⟩ (tU.ap.tr a2) (by rw [List.append_assoc] at a3; exact a3)
      · refine hN (fun l2 c => ?_) g' (tU.ap.tr a2)
        match l2, c with
        | [], c => exact absurd (show k = sz from c) (by omega)
        | (v', q', b') :: l2, c =>
          obtain ⟨c1, c2, c3⟩ := c
          obtain ⟨u1, u2⟩ := hg.u c1
          have hh := hv.2.1
          have u3 := tVL.u (b' := b) (show tVL f q b' by rw [u2]; exact c2) (by omega) hv.2.2 (by omega)
          refine a1 l2 ?_
          rw [← u3]
          exact c3
    have val : ∀ v q : Int, tTG f k v q → k + 2 ≤ q → q ≤ sz → x_V S 107 107 [some (.ref 100), some (.int (I q)), some (.int (I v)), some (.int (I k)), w4] [] (x_vm g) n Q := by
      intro v q hg hq hq2
      have bad : ∀ b : Int, q ≤ b → (∀ j, q ≤ j → j < b → 33 ≤ f j ∧ f j ≤ 126) → ¬ (33 ≤ f b ∧ f b ≤ 126) → ¬ (f b = 1 ∧ q < b) → ∀ l2, ¬ tCH f sz k l2 := by
        intro b a1 a2 a3 a4 l2 c
        match l2, c with
        | [], c =>
          obtain ⟨z, z1, z2, z3, z4, z5⟩ := hg
          have c' : k = sz := c
          have hok := ho k
          rw [show tdl f 4 0 k = (if 48 ≤ f k ∧ f k ≤ 57 then tdl f 3 (10 * 0 + f k - 48) (k + 1) else (0, k)) from rfl, if_neg (by omega)] at z1
          exact z2 (Prod.mk.inj z1).2.symm
        | (v', q', b') :: l2, c =>
          obtain ⟨c1, c2, c3⟩ := c
          obtain ⟨u1, u2⟩ := hg.u c1
          have c2' : tVL f q b' := by rw [u2]; exact c2
          have u3 := c2'.u a1 a2 a3
          rw [u3] at c2'
          exact a4 ⟨c2'.2.1, c2'.1⟩
      refine s107_107 rfl ?_
      refine s107_108 ?_
      refine l107v hF0 ⟨by omega, by omega⟩ (fun b b1 b2 b3 b4 => ?_) (sz - q).toNat q (by omega) (by omega) (fun j _ _ => by omega)
      have bad' := bad b b1 b3 b4
      have hbb := hb b
      have hok := ho b
      refine s107_146 rfl ?_
      refine s107_147 rfl ?_
      refine s107_148 (by first | assumption | rfl) (by first | assumption | (exact hpo _) | rfl | decide) (by first | assumption | decide | omega) ?_
      refine s107_151 ⟨by omega, by omega⟩ ⟨by omega, by omega⟩ (fun h151 => ?_) (fun h151 => ?_)
      · refine s107_170 ?_
        refine s107_171 (st := []) (by omega) ?_
        exact hN (bad' (by omega)) g tU.rf
      · refine s107_154 rfl ?_
        refine s107_155 (by first | assumption | rfl) (by first | assumption | (exact hpo _) | rfl | decide) ?_
        refine s107_158 rfl ?_
        refine v_iald d107_159 (by first | assumption | rfl) (by omega) (by omega) (by omega) (by first | assumption | (exact hpo _) | rfl | decide) (by first | assumption | decide | omega) ?_
        rw [hfr b (by omega) (by omega)]
        refine s107_160 ?_
        refine s107_161 ⟨by omega, by omega⟩ ⟨by omega, by omega⟩ (fun h161 => ?_) (fun h161 => ?_)
        · refine s107_170 ?_
          refine s107_171 (st := []) (by omega) ?_
          exact hN (bad' (by omega)) g tU.rf
        · refine s107_164 rfl ?_
          refine s107_165 rfl ?_
          refine s107_167 ⟨by omega, by omega⟩ ⟨by omega, by omega⟩ (fun h167 => ?_) (fun h167 => ?_)
          · exact fin v q b hg hq ⟨by omega, by omega, b3⟩ (by omega)
          · refine s107_170 ?_
            refine s107_171 (st := []) (by omega) ?_
            exact hN (bad' (by omega)) g tU.rf
    have ini : k < sz → x_V S 107 15 [some (.ref 100), some (.int (I k)), w2, w3, w4] [] (x_vm g) n Q := by
      intro hk
      refine s107_15 ?_
      refine s107_16 ?_
      refine s107_17 rfl ?_
      refine s107_18 ?_
      refine l107d hF0 ⟨h2, hk⟩ (fun v q b1 b2 b3 b4 b5 b6 => ?_) 4 0 k (by omega) (by omega) (by omega) (by omega) (by decide) rfl
      have bad : (q = k ∨ f k = 48 ∨ f q ≠ 61) → ∀ l2, ¬ tCH f sz k l2 := by
        intro a4 l2 c
        match l2, c with
        | [], c => exact absurd (show k = sz from c) (by omega)
        | (v', q', b') :: l2, c =>
          obtain ⟨⟨z, z1, z2, z3, z4, z5⟩, c2, c3⟩ := c
          rw [b1] at z1
          obtain ⟨u1, u2⟩ := Prod.mk.inj z1
          rw [u2] at a4
          omega
      have hbb := hb q
      have hbk := hb k
      have hok := ho q
      refine s107_67 rfl ?_
      refine s107_68 rfl ?_
      refine s107_69 ⟨by omega, by omega⟩ ⟨by omega, by omega⟩ (fun h69 => ?_) (fun h69 => ?_)
      · refine s107_102 ?_
        refine s107_103 (st := []) (by omega) ?_
        exact hN (bad (by omega)) g tU.rf
      · refine s107_72 rfl ?_
        refine s107_73 (by first | assumption | rfl) (by first | assumption | (exact hpo _) | rfl | decide) ?_
        refine s107_76 rfl ?_
        refine v_iald d107_77 (by first | assumption | rfl) (by omega) (by omega) (by omega) (by first | assumption | (exact hpo _) | rfl | decide) (by first | assumption | decide | omega) ?_
        rw [hfr k (by omega) (by omega)]
        refine s107_78 ?_
        refine s107_80 ⟨by omega, by omega⟩ ⟨by omega, by omega⟩ (fun h80 => ?_) (fun h80 => ?_)
        · refine s107_102 ?_
          refine s107_103 (st := []) (by omega) ?_
          exact hN (bad (by omega)) g tU.rf
        · refine s107_83 rfl ?_
          refine s107_84 rfl ?_
          refine s107_85 (by first | assumption | rfl) (by first | assumption | (exact hpo _) | rfl | decide) (by first | assumption | decide | omega) ?_
          refine s107_88 ⟨by omega, by omega⟩ ⟨by omega, by omega⟩ (fun h88 => ?_) (fun h88 => ?_)
          · refine s107_102 ?_
            refine s107_103 (st := []) (by omega) ?_
            exact hN (bad (by omega)) g tU.rf
          · refine s107_91 rfl ?_
            refine s107_92 (by first | assumption | rfl) (by first | assumption | (exact hpo _) | rfl | decide) ?_
            refine s107_95 rfl ?_
            refine v_iald d107_96 (by first | assumption | rfl) (by omega) (by omega) (by omega) (by first | assumption | (exact hpo _) | rfl | decide) (by first | assumption | decide | omega) ?_
            rw [hfr q (by omega) (by omega)]
            refine s107_97 ?_
            refine s107_99 ⟨by omega, by omega⟩ ⟨by omega, by omega⟩ (fun h99 => ?_) (fun h99 => ?_)
            · refine s107_104 rfl ?_
              exact val v (q + 1) ⟨q, b1, by omega, by omega, by omega, rfl⟩ (by omega) (by omega)
            · refine s107_102 ?_
              refine s107_103 (st := []) (by omega) ?_
              exact hN (bad (by omega)) g tU.rf
    refine s107_7 rfl ?_
    refine s107_8 rfl ?_
    refine s107_9 (by first | assumption | rfl) (by first | assumption | (exact hpo _) | rfl | decide) (by first | assumption | decide | omega) ?_
    refine s107_12 ⟨by omega, by omega⟩ ⟨by omega, by omega⟩ (fun h12 => ?_) (fun h12 => ?_)
    · refine s107_219 ?_
      refine s107_220 (st := []) (by omega) ?_
      exact hY [] g (show k = sz by omega) tU.rf (by rw [List.append_nil]; exact hT)
    · exact ini (by omega)
theorem c107 (hF : tF g f sz) (hY : ∀ l g', tCH f sz 0 l → tU g g' → tT g' l → Q (.inl (some (.int (I 1)))) (x_vm g') n) (hN : (∀ l, ¬ tCH f sz 0 l) → ∀ g', tU g g' → Q (.inl (some (.int (I 0)))) (x_vm g') n) : x_V S 107 0 [some (.ref 100), none, none, none, none] [] (x_vm g) n Q := by
  have hs := hF.2.1
  have u : tU g (x_uf g 100 4 0) := fun a i q1 q2 q3 q4 => x_uf_ne q4
  refine s107_0 rfl ?_
  refine s107_1 ?_
  refine s107_2 (by first | assumption | rfl) (by first | assumption | (exact hpo _) | rfl | decide) (by first | assumption | decide | omega) ?_
  refine s107_5 ?_
  refine s107_6 ?_
  exact l107 120 _ 0 [] _ _ _ (by omega) (by omega) (by omega) (by simp) (tU.cF u hF) ⟨x_uf_eq _ _ _ _, fun i hi => absurd hi (Nat.not_lt_zero _)⟩ (fun l2 g' a1 a2 a3 => hY l2 g' a1 (u.tr a2) a3) (fun a1 g' a2 => hN a1 g' (u.tr a2))
end MP
