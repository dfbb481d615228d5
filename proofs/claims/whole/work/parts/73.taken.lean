/-! 73.taken: the reference takes a frame. -/
section MT
variable {S : Nat × (Nat → Int32)} {μ : xM} {g : Nat → Nat → Int} {n : Nat} {Q : xQ} {y : yS} {N L T M R U : Int} {t m d a b c : Int} {f : Int → Int} {sz : Int}
theorem settle_turn {b' : Int} (h6 : y.1 6 ≠ 0) (h3 : 0 ≤ y.1 3) (h5 : 0 ≤ y.1 5) (hb : t ≠ 52 → b' = b) : ysettle (ymt y t a b c) = yturn (yraise y (y.1 3 + 1)) t a b' c := by
  have st := settle_t (y := y) (v := y.1 3 + 1) h6 rfl
  unfold ymt yturn
  by_cases c1 : t = 49
  · rw [if_pos c1, if_pos c1, ← st]
    exact settle_c (F := fun y => ysend y 48 a 0) (ysend_c (by omega) (by omega)) (ysend_c (by omega) (by omega)) (ysend_c (by omega) (by omega)) (fun z => ysend_5)
  rw [if_neg c1, if_neg c1]
  by_cases c2 : t = 50
  · rw [if_pos c2, if_pos c2, ← st, hb (by omega)]
    exact settle_c (F := fun y => yresend y a b) (yresend_c (by omega)) (yresend_c (by omega)) (yresend_c (by omega)) (fun z => yresend_5)
  rw [if_neg c2, if_neg c2]
  by_cases c3 : t = 52
  · rw [if_pos c3, if_pos c3]
    exact settle_52 h6 rfl h3 h5
  rw [if_neg c3, if_neg c3]
  by_cases c4 : t = 53
  · rw [if_pos c4, if_pos c4, settle_lo, ← st, settle_e, ylogout_5]
  rw [if_neg c4, if_neg c4]
  by_cases c5 : t = 68 ∨ t = 70 ∨ t = 71
  · rw [if_pos c5, if_pos c5, ← st, hb c3]
    exact settle_c (F := fun y => yorder (yset y 8 (y.1 8 + 1)) t a b c) (yorder_c (by omega) (by omega)) (yorder_c (by omega) (by omega)) (yorder_c (by omega) (by omega)) (fun z => by
      show yorder (yset (yset (yset y 3 (y.1 3 + 1)) 5 z) 8 _) t a b c = _
      rw [yset_cm (i := 5) (j := 8) (by omega)]
      exact yorder_5)
  · rw [if_neg c5, if_neg c5]
    exact st
theorem ymt_c (h3 : 0 ≤ y.1 3 ∧ y.1 3 ≤ 1000000) (h5 : 0 ≤ y.1 5 ∧ y.1 5 ≤ 999999) (h6 : y.1 6 = 0 ∨ y.1 6 = 1) (ha : 0 ≤ a ∧ a ≤ 999999) : (0 ≤ (ymt y t a b c).1 3 ∧ (ymt y t a b c).1 3 ≤ 2000000) ∧ (0 ≤ (ymt y t a b c).1 5 ∧ (ymt y t a b c).1 5 ≤ 2000000) ∧ ((ymt y t a b c).1 6 = 0 ∨ (ymt y t a b c).1 6 = 1) := by
  have k : (0 ≤ y.1 3 + 1 ∧ y.1 3 + 1 ≤ 2000000) ∧ (0 ≤ y.1 5 ∧ y.1 5 ≤ 2000000) ∧ (y.1 6 = 0 ∨ y.1 6 = 1) := by omega
  unfold ymt
  split
  · exact k
  · split
    · rw [yresend_c (by omega), yresend_c (by omega), yresend_c (by omega)]
      exact k
    · split
      · split
        · exact ⟨(show 0 ≤ a ∧ a ≤ 2000000 by omega), k.2.1, k.2.2⟩
        · exact k
      · split
        · exact ⟨k.1, (show (0 : Int) ≤ 0 ∧ (0 : Int) ≤ 2000000 by omega), Or.inl rfl⟩
        · split
          · rw [yorder_c (by omega) (by omega), yorder_c (by omega) (by omega), yorder_c (by omega) (by omega)]
            exact k
          · exact k
theorem yorder_70 {c c' : Int} : yorder y 70 a b c = yorder y 70 a b c' := by
  have e : ycarry y 70 a b c = ycarry y 70 a b c' := by
    unfold ycarry yamend
    simp
  unfold yorder
  rw [e]
theorem yin_1 {a : Int} (h : y.1 6 ≠ 0) : yin y a = y := if_neg h
/-- values that a type has not are never read -/
theorem recv_w {w : Nat → Int} (ht : zpeer t) (h : tM t a b c w) : yrecv y t m d (w 0) (w 1) (w 2) = yrecv y t m d a (if t = 52 then (if b = 89 then 1 else 0) else b) c := by
  obtain ⟨h1, h2, h3, h4, h5, h6⟩ := h
  unfold yrecv
  by_cases c0 : y.1 6 = 0 ∧ t ≠ 65
  · rw [if_pos c0, if_pos c0]
  rw [if_neg c0, if_neg c0]
  have e6 : (yset y 9 (y.1 7)).1 6 = y.1 6 := rfl
  generalize yset y 9 (y.1 7) = y0 at e6
  have fc := x_fc_t
  by_cases c65 : t = 65
  · have ea : a = w 0 := h4 (by omega) (by rw [c65]; omega)
    rw [c65, ← ea]
    unfold yrecv1 yhigh yearly yearly1 yturn
    simp
  have i6 : y0.1 6 ≠ 0 := by omega
  unfold yrecv1
  rw [yin_1 i6, yin_1 i6]
  unfold yhigh yearly yearly1 yturn
  rcases ht with q | q | q | q | q | q | q | q | q
  · rw [q]; simp
  · have ea : a = w 0 := h4 (by omega) (by rw [q]; omega)
    rw [q, ← ea]; simp
  · have ea : a = w 0 := h4 (by omega) (by rw [q]; omega)
    have eb : b = w 1 := (h5 (by rw [q]; omega)).2 (by omega)
    rw [q, ← ea, ← eb]; simp
  · have ea : a = w 0 := h4 (by omega) (by rw [q]; omega)
    have eb := (h5 (by rw [q]; omega)).1 q
    rw [q, ← ea]
    rcases eb with ⟨e1, e2⟩ | ⟨e1, e2⟩
    · rw [e1, e2]; simp
    · rw [e1, e2]; simp
  · rw [q]; simp
  · exact absurd q c65
  · have ea : a = w 0 := h4 (by omega) (by rw [q]; omega)
    have eb : b = w 1 := (h5 (by rw [q]; omega)).2 (by omega)
    have ec : c = w 2 := h6 (by rw [q]; omega)
    rw [q, ← ea, ← eb, ← ec]; simp
  · have ea : a = w 0 := h4 (by omega) (by rw [q]; omega)
    have eb : b = w 1 := (h5 (by rw [q]; omega)).2 (by omega)
    rw [q, ← ea, ← eb]
    simp [yorder_70 (c := w 2) (c' := c)]
  · have ea : a = w 0 := h4 (by omega) (by rw [q]; omega)
    have eb : b = w 1 := (h5 (by rw [q]; omega)).2 (by omega)
    have ec : c = w 2 := h6 (by rw [q]; omega)
    rw [q, ← ea, ← eb, ← ec]; simp
def tQ (g g' : Nat → Nat → Int) : Prop := sF g g' ∧ ∀ i, i ≤ 1 → g' 100 i = g 100 i
theorem tV.q {g' : Nat → Nat → Int} (h : tV g g') : tQ g g' := ⟨fun a i q => h a i (by omega) (by omega) (by omega) (by omega), fun i q => h _ _ (by omega) (by omega) (by omega) (by omega)⟩
theorem rF.q {g' : Nat → Nat → Int} (h : rF g g') : tQ g g' := ⟨h.s, fun i q => h _ _ (by omega)⟩
theorem tQ.tr {g1 g2 : Nat → Nat → Int} (h1 : tQ g g1) (h2 : tQ g1 g2) : tQ g g2 := ⟨h1.1.tr h2.1, fun i q => (h2.2 i q).trans (h1.2 i q)⟩
theorem k119 {w : Nat → Int} (hC : rC g y) (hI : yI N L T M R U y) (hN : N ≤ 1580) (hL : L ≤ 1000) (hT : T ≤ 999999) (hM : M ≤ 1000) (hRb : 0 ≤ R ∧ R ≤ 511) (hU : U ≤ 511) (hH : rH g t m d a b c) (hMw : tM t a b c w) (ht : zpeer t) (hd : d = 0 ∨ d = 1) (hm : 0 ≤ m ∧ m ≤ 999999) (hw52 : t = 52 → b = 89 ∨ b = 78)
    (hR : ∀ y2 v g', rC g' y2 → rF g g' → (v, ysettle y2) = yrecv y t m d (w 0) (w 1) (w 2) → (0 ≤ y2.1 3 ∧ y2.1 3 ≤ 2000000) ∧ (0 ≤ y2.1 5 ∧ y2.1 5 ≤ 2000000) ∧ (y2.1 6 = 0 ∨ y2.1 6 = 1) → Q (.inl (some (.int (I v)))) (x_vm g') n) : x_V S 119 9 [some (.ref 100)] [] (x_vm g) n Q := by
  rw [recv_w ht hMw] at hR
  obtain ⟨ha, hb, hc, _⟩ := hMw
  generalize eb' : (if t = 52 then (if b = 89 then (1 : Int) else 0) else b) = b' at hR
  have hb' : t ≠ 52 → b' = b := fun z => by rw [← eb', if_neg z]
  have hb2 : t = 52 → (b = 89 ∧ b' = 1) ∨ (b = 78 ∧ b' = 0) := fun z => by
    rcases hw52 z with q | q
    · exact Or.inl ⟨q, by rw [← eb', if_pos z, if_pos q]⟩
    · exact Or.inr ⟨q, by rw [← eb', if_pos z, if_neg (by omega)]⟩
  have i3 := hI.1.1
  have i4 := hI.1.2.1
  have i5 := hI.1.2.2.1
  have i35 := hI.1.2.2.2.1
  have i6 := hI.1.2.2.2.2.1
  have i65 := hI.1.2.2.2.2.2.1
  have i7 := hI.1.2.2.2.2.2.2.1
  have hok : ∀ z : Int, (0 ≤ z ∧ z ≤ 2000000) → (0 ≤ z ∧ z ≤ 2000000) ∧ (0 ≤ y.1 5 ∧ y.1 5 ≤ 2000000) ∧ (y.1 6 = 0 ∨ y.1 6 = 1) := fun z hz => ⟨hz, by omega, i6⟩
  have e6 : g 100 19 = y.1 6 := hC.1.at.2.2.2.1
  have e7 : g 100 22 = y.1 7 := hC.1.at.2.2.2.2.1
  have hH2 := hH
  have hI0 := hI.s9
  have hC0 : rC (x_uf g 100 23 (y.1 7)) (yset y 9 (y.1 7)) := rC.set (j := 9) (by omega) (by omega) (by omega) hC
  have hF0 : rF g (x_uf g 100 23 (y.1 7)) := rF.u (by omega)
  have hH0 := hH.f hF0
  have go : ¬ (y.1 6 = 0 ∧ t ≠ 65) → x_V S 119 35 [some (.ref 100)] [] (x_vm (x_uf g 100 23 (y.1 7))) n Q := by
    intro c0
    unfold yrecv at hR
    rw [if_neg c0] at hR
    unfold yrecv1 at hR
    have j3 : (yset y 9 (y.1 7)).1 3 = y.1 3 := rfl
    have j4 : (yset y 9 (y.1 7)).1 4 = y.1 4 := rfl
    have j5 : (yset y 9 (y.1 7)).1 5 = y.1 5 := rfl
    have j6 : (yset y 9 (y.1 7)).1 6 = y.1 6 := rfl
    generalize yset y 9 (y.1 7) = y0 at hR hI0 hC0 j3 j4 j5 j6
    generalize x_uf g 100 23 (y.1 7) = g0 at hC0 hF0 hH0
    have k3 : g0 100 20 = y0.1 3 := hC0.1.at.1
    have k6 : g0 100 19 = y0.1 6 := hC0.1.at.2.2.2.1
    have hP0 := hI0.rP (by omega) (by omega)
    have s0 : ysettle y0 = y0 := settle_id (by omega) (by omega)
    have ok0 : (0 ≤ y0.1 3 ∧ y0.1 3 ≤ 2000000) ∧ (0 ≤ y0.1 5 ∧ y0.1 5 ≤ 2000000) ∧ (y0.1 6 = 0 ∨ y0.1 6 = 1) := ⟨by omega, by omega, by omega⟩
    have hCa : rC (x_uf g0 100 20 a) (yset y0 3 a) := rC.set (j := 3) (by omega) (by omega) (by omega) hC0
    have hFa : rF g (x_uf g0 100 20 a) := hF0.tr (rF.u (by omega))
    have rest : ¬ (t = 52 ∧ ¬ 0 < b') → ¬ m < y0.1 3 → ∀ (y1 : yS) (g1 : Nat → Nat → Int), rC g1 y1 → rF g0 g1 → y1 = yin y0 a → x_V S 119 132 [some (.ref 100)] [] (x_vm g1) n Q := by
      intro c1 c2 y1 g1 hC1 hF1 ey
      rw [if_neg c1, if_neg c2, ← ey] at hR
      have hI1 := hI0.inn (a := a) (by omega) ha
      rw [← ey] at hI1
      have l6 : y1.1 6 ≠ 0 := by
        rw [ey]
        unfold yin
        split
        · show (1 : Int) ≠ 0
          omega
        · assumption
      have l3 : y1.1 3 = y0.1 3 := by
        rw [ey]
        unfold yin
        split <;> rfl
      have l5 := hI1.1.2.2.1
      have l35 := hI1.1.2.2.2.1
      have l65 := hI1.1.2.2.2.2.2.1
      have l61 := hI1.1.2.2.2.2.1
      have hH1 := hH0.f hF1
      have m3 : g1 100 20 = y1.1 3 := hC1.1.at.1
      unfold yhigh at hR
      have ea : yearly y1 t m a b' = yearly3 (yearly1 y1 t a b) m := by
        unfold yearly
        have : yearly1 y1 t a b' = yearly1 y1 t a b := by
          unfold yearly1
          by_cases q : t = 50
          · rw [hb' (by omega)]
          · rw [if_neg q, if_neg q]
        rw [this]
      have hIe := hI1.early1 (t := t) (b := b) (by omega) hRb.1 ha.1
      have e13 : (yearly1 y1 t a b).1 3 = y1.1 3 := yearly1_3
      refine s119_132 rfl ?_
      refine s119_133 (by first | assumption | rfl) (by first | assumption | (exact hpo _) | rfl | decide) (by first | assumption | decide | omega) ?_
      rw [hH1.2.1]
      refine s119_136 rfl ?_
      refine s119_137 (by first | assumption | rfl) (by first | assumption | (exact hpo _) | rfl | decide) (by first | assumption | decide | omega) ?_
      rw [m3]
      refine s119_140 ⟨by omega, by omega⟩ ⟨by omega, by omega⟩ (fun h140 => ?_) (fun h140 => ?_)
      · rw [if_neg (show ¬ y1.1 3 < m by omega)] at hR
        refine k119t hC1 hH1 hI1 (by omega) (by omega) hM hU l6 ht ha hb hc (fun g2 hC2 hF2 => ?_)
        exact hR _ _ _ hC2 (hF0.tr (hF1.tr hF2)) (by rw [settle_turn l6 (by omega) l5.1 hb']) (ymt_c ⟨by omega, by omega⟩ l5 l61 ha)
      · rw [if_pos (show y1.1 3 < m by omega), ea] at hR
        refine k119e hC1 hH1 hI1 (by omega) (by omega) ⟨by omega, by omega⟩ l6 ht ha hb hm.2 (by omega) (fun g2 hC2 hF2 => ?_)
        have hse := settle_early (y := yearly1 y1 t a b) (m := m) hIe.1.2.2.2.1 hIe.1.2.2.2.2.2.1 ⟨by omega, by omega⟩
        refine hR _ _ _ hC2 (hF0.tr (hF1.tr hF2)) (by rw [hse]) ?_
        have i5e := hIe.1.2.2.1
        have i6e := hIe.1.2.2.2.2.1
        generalize yearly1 y1 t a b = y2 at e13 i5e i6e
        unfold ytk4 ytk3
        refine ⟨?_, ?_, ?_⟩
        · show 0 ≤ (if y2.1 6 ≠ 0 ∧ y2.1 5 = 0 then yask y2 else y2).1 3 ∧ (if y2.1 6 ≠ 0 ∧ y2.1 5 = 0 then yask y2 else y2).1 3 ≤ 2000000
          have : (if y2.1 6 ≠ 0 ∧ y2.1 5 = 0 then yask y2 else y2).1 3 = y2.1 3 := by split <;> rfl
          omega
        · have : (if y2.1 6 ≠ 0 ∧ y2.1 5 = 0 then yask y2 else y2).1 5 = y2.1 5 := by split <;> rfl
          generalize (if y2.1 6 ≠ 0 ∧ y2.1 5 = 0 then yask y2 else y2) = y3 at this
          show 0 ≤ (if y3.1 6 ≠ 0 ∧ y3.1 5 < m then m else y3.1 5) ∧ (if y3.1 6 ≠ 0 ∧ y3.1 5 < m then m else y3.1 5) ≤ 2000000
          split <;> omega
        · have : (if y2.1 6 ≠ 0 ∧ y2.1 5 = 0 then yask y2 else y2).1 6 = y2.1 6 := by split <;> rfl
          show (if y2.1 6 ≠ 0 ∧ y2.1 5 = 0 then yask y2 else y2).1 6 = 0 ∨ (if y2.1 6 ≠ 0 ∧ y2.1 5 = 0 then yask y2 else y2).1 6 = 1
          rw [this]
          exact i6e
    refine s119_35 rfl ?_
    refine s119_36 (by first | assumption | rfl) (by first | assumption | (exact hpo _) | rfl | decide) (by first | assumption | decide | omega) ?_
    rw [hH0.1]
    refine s119_39 ?_
    refine s119_41 ⟨by omega, by omega⟩ ⟨by omega, by omega⟩ (fun h41 => ?_) (fun h41 => ?_)
    · refine s119_76 rfl ?_
      refine s119_77 (by first | assumption | rfl) (by first | assumption | (exact hpo _) | rfl | decide) (by first | assumption | decide | omega) ?_
      rw [hH0.2.1]
      refine s119_80 rfl ?_
      refine s119_81 (by first | assumption | rfl) (by first | assumption | (exact hpo _) | rfl | decide) (by first | assumption | decide | omega) ?_
      rw [k3]
      refine s119_84 ⟨by omega, by omega⟩ ⟨by omega, by omega⟩ (fun h84 => ?_) (fun h84 => ?_)
      · refine s119_102 rfl ?_
        refine s119_103 (by first | assumption | rfl) (by first | assumption | (exact hpo _) | rfl | decide) (by first | assumption | decide | omega) ?_
        rw [k6]
        refine s119_106 ⟨by omega, by omega⟩ (fun h106 => ?_) (fun h106 => ?_)
        · first
            | exact rest (by omega) (by omega) y0 _ hC0 rF.rf (yin_1 (by omega)).symm
            | exact rest (by omega) (by omega) _ _ hC1 (hFi.tr hF1) rfl
        · refine s119_109 rfl ?_
          refine s119_110 ?_
          refine s119_111 (by first | assumption | rfl) (by omega) (by first | assumption | (exact hpo _) | rfl | decide) (by first | assumption | decide | omega) ?_
          refine s119_114 rfl ?_
          refine s119_115 ?_
          refine s119_116 (by first | assumption | rfl) (by first | assumption | (exact hpo _) | rfl | decide) (by first | assumption | decide | omega) ?_
          refine s119_119 rfl ?_
          refine s119_120 ?_
          refine s119_122 rfl ?_
          refine s119_123 (by first | assumption | rfl) (by first | assumption | (exact hpo _) | rfl | decide) (by first | assumption | decide | omega) ?_
          rw [x_uf_ne (by omega), x_uf_ne (by omega), hH0.2.2.2.1]
          refine s119_126 ?_
          refine s119_127 ?_
          refine s119_128 ?_
          refine s119_129 (by first | assumption | rfl) (by simp) ?_
          have hCi : rC (x_uf (x_uf g0 100 19 1) 100 26 0) (yset (yset y0 6 1) 5 0) := rC.set (j := 5) (by omega) (by omega) (by omega) (rC.set (j := 6) (by omega) (by omega) (by omega) hC0)
          have hFi : rF g0 (x_uf (x_uf g0 100 19 1) 100 26 0) := (rF.u (by omega)).tr (rF.u (by omega))
          have hPi : rP (yset (yset y0 6 1) 5 0) := ⟨hP0.1, hP0.2.1, hP0.2.2.1, Or.inr rfl⟩
          have h4 := hP0.2.1
          refine c98p hCi hPi ⟨by omega, by omega⟩ (by omega) (fun _ => rok_s (by decide) (by decide) (show 0 ≤ y0.1 4 ∧ y0.1 4 ≤ 999999 by omega) ⟨by omega, by omega⟩ (fun _ => by omega) ⟨by omega, by omega⟩) (fun g1 hC1 hF1 => ?_)
          refine ⟨_, rfl, ?_⟩
          rw [rsend_in (by decide) (show (1 : Int) ≠ 0 by omega), yin_m (by omega) (by omega)] at hC1
          first
            | exact rest (by omega) (by omega) y0 _ hC0 rF.rf (yin_1 (by omega)).symm
            | exact rest (by omega) (by omega) _ _ hC1 (hFi.tr hF1) rfl
      · refine s119_87 rfl ?_
        refine s119_88 (by first | assumption | rfl) (by first | assumption | (exact hpo _) | rfl | decide) (by first | assumption | decide | omega) ?_
        rw [hH0.2.2.1]
        refine s119_91 ⟨by omega, by omega⟩ (fun h91 => ?_) (fun h91 => ?_)
        · refine s119_96 rfl ?_
          refine s119_97 (by first | assumption | rfl) (by simp) ?_
          refine c99 hC0 hP0 (fun g1 hC1 hF1 => ?_)
          refine ⟨_, rfl, ?_⟩
          refine s119_100 ?_
          refine s119_101 (st := []) ?_
          rw [if_neg (show ¬ (t = 52 ∧ ¬ 0 < b') by omega), if_pos (show m < y0.1 3 by omega), if_pos (show d = 0 by omega)] at hR
          by_cases c6 : y0.1 6 = 0
          · rw [if_pos c6, yleave_id c6 (by omega)] at hC1
            refine hR _ _ _ hC1 (hF0.tr hF1) ?_ ok0
            rw [s0]
            unfold ylow
            rw [if_neg (fun z => z.2 c6)]
          · rw [if_neg c6] at hC1
            refine hR _ _ _ hC1 (hF0.tr hF1) ?_ ⟨ok0.1, (show (0 : Int) ≤ 0 ∧ (0 : Int) ≤ 2000000 by omega), Or.inl rfl⟩
            rw [settle_lo]
            unfold ylow
            rw [if_pos ⟨by omega, c6⟩]
        · refine s119_94 ?_
          refine s119_95 (st := []) ?_
          rw [if_neg (show ¬ (t = 52 ∧ ¬ 0 < b') by omega), if_pos (show m < y0.1 3 by omega), if_neg (show ¬ d = 0 by omega)] at hR
          refine hR _ _ _ hC0 hF0 ?_ ok0
          rw [s0]
          unfold ylow
          rw [if_neg (fun z => by omega)]
    · refine s119_44 rfl ?_
      refine s119_45 (by first | assumption | rfl) (by first | assumption | (exact hpo _) | rfl | decide) (by first | assumption | decide | omega) ?_
      rw [hH0.2.2.2.2.1]
      refine s119_48 ?_
      refine s119_50 ⟨by omega, by omega⟩ ⟨by omega, by omega⟩ (fun h50 => ?_) (fun h50 => ?_)
      · refine s119_76 rfl ?_
        refine s119_77 (by first | assumption | rfl) (by first | assumption | (exact hpo _) | rfl | decide) (by first | assumption | decide | omega) ?_
        rw [hH0.2.1]
        refine s119_80 rfl ?_
        refine s119_81 (by first | assumption | rfl) (by first | assumption | (exact hpo _) | rfl | decide) (by first | assumption | decide | omega) ?_
        rw [k3]
        refine s119_84 ⟨by omega, by omega⟩ ⟨by omega, by omega⟩ (fun h84 => ?_) (fun h84 => ?_)
        · refine s119_102 rfl ?_
          refine s119_103 (by first | assumption | rfl) (by first | assumption | (exact hpo _) | rfl | decide) (by first | assumption | decide | omega) ?_
          rw [k6]
          refine s119_106 ⟨by omega, by omega⟩ (fun h106 => ?_) (fun h106 => ?_)
          · first
              | exact rest (by omega) (by omega) y0 _ hC0 rF.rf (yin_1 (by omega)).symm
              | exact rest (by omega) (by omega) _ _ hC1 (hFi.tr hF1) rfl
          · refine s119_109 rfl ?_
            refine s119_110 ?_
            refine s119_111 (by first | assumption | rfl) (by omega) (by first | assumption | (exact hpo _) | rfl | decide) (by first | assumption | decide | omega) ?_
            refine s119_114 rfl ?_
            refine s119_115 ?_
            refine s119_116 (by first | assumption | rfl) (by first | assumption | (exact hpo _) | rfl | decide) (by first | assumption | decide | omega) ?_
            refine s119_119 rfl ?_
            refine s119_120 ?_
            refine s119_122 rfl ?_
            refine s119_123 (by first | assumption | rfl) (by first | assumption | (exact hpo _) | rfl | decide) (by first | assumption | decide | omega) ?_
            rw [x_uf_ne (by omega), x_uf_ne (by omega), hH0.2.2.2.1]
            refine s119_126 ?_
            refine s119_127 ?_
            refine s119_128 ?_
            refine s119_129 (by first | assumption | rfl) (by simp) ?_
            have hCi : rC (x_uf (x_uf g0 100 19 1) 100 26 0) (yset (yset y0 6 1) 5 0) := rC.set (j := 5) (by omega) (by omega) (by omega) (rC.set (j := 6) (by omega) (by omega) (by omega) hC0)
            have hFi : rF g0 (x_uf (x_uf g0 100 19 1) 100 26 0) := (rF.u (by omega)).tr (rF.u (by omega))
            have hPi : rP (yset (yset y0 6 1) 5 0) := ⟨hP0.1, hP0.2.1, hP0.2.2.1, Or.inr rfl⟩
            have h4 := hP0.2.1
            refine c98p hCi hPi ⟨by omega, by omega⟩ (by omega) (fun _ => rok_s (by decide) (by decide) (show 0 ≤ y0.1 4 ∧ y0.1 4 ≤ 999999 by omega) ⟨by omega, by omega⟩ (fun _ => by omega) ⟨by omega, by omega⟩) (fun g1 hC1 hF1 => ?_)
            refine ⟨_, rfl, ?_⟩
            rw [rsend_in (by decide) (show (1 : Int) ≠ 0 by omega), yin_m (by omega) (by omega)] at hC1
            first
              | exact rest (by omega) (by omega) y0 _ hC0 rF.rf (yin_1 (by omega)).symm
              | exact rest (by omega) (by omega) _ _ hC1 (hFi.tr hF1) rfl
        · refine s119_87 rfl ?_
          refine s119_88 (by first | assumption | rfl) (by first | assumption | (exact hpo _) | rfl | decide) (by first | assumption | decide | omega) ?_
          rw [hH0.2.2.1]
          refine s119_91 ⟨by omega, by omega⟩ (fun h91 => ?_) (fun h91 => ?_)
          · refine s119_96 rfl ?_
            refine s119_97 (by first | assumption | rfl) (by simp) ?_
            refine c99 hC0 hP0 (fun g1 hC1 hF1 => ?_)
            refine ⟨_, rfl, ?_⟩
            refine s119_100 ?_
            refine s119_101 (st := []) ?_
            rw [if_neg (show ¬ (t = 52 ∧ ¬ 0 < b') by omega), if_pos (show m < y0.1 3 by omega), if_pos (show d = 0 by omega)] at hR
            by_cases c6 : y0.1 6 = 0
            · rw [if_pos c6, yleave_id c6 (by omega)] at hC1
              refine hR _ _ _ hC1 (hF0.tr hF1) ?_ ok0
              rw [s0]
              unfold ylow
              rw [if_neg (fun z => z.2 c6)]
            · rw [if_neg c6] at hC1
              refine hR _ _ _ hC1 (hF0.tr hF1) ?_ ⟨ok0.1, (show (0 : Int) ≤ 0 ∧ (0 : Int) ≤ 2000000 by omega), Or.inl rfl⟩
              rw [settle_lo]
              unfold ylow
              rw [if_pos ⟨by omega, c6⟩]
          · refine s119_94 ?_
            refine s119_95 (st := []) ?_
            rw [if_neg (show ¬ (t = 52 ∧ ¬ 0 < b') by omega), if_pos (show m < y0.1 3 by omega), if_neg (show ¬ d = 0 by omega)] at hR
            refine hR _ _ _ hC0 hF0 ?_ ok0
            rw [s0]
            unfold ylow
            rw [if_neg (fun z => by omega)]
      · refine s119_53 rfl ?_
        refine s119_54 (by first | assumption | rfl) (by first | assumption | (exact hpo _) | rfl | decide) (by first | assumption | decide | omega) ?_
        rw [hH0.2.2.2.1]
        refine s119_57 rfl ?_
        refine s119_58 (by first | assumption | rfl) (by first | assumption | (exact hpo _) | rfl | decide) (by first | assumption | decide | omega) ?_
        rw [k3]
        refine s119_61 ⟨by omega, by omega⟩ ⟨by omega, by omega⟩ (fun h61 => ?_) (fun h61 => ?_)
        · refine s119_66 rfl ?_
          refine s119_67 rfl ?_
          refine s119_68 (by first | assumption | rfl) (by first | assumption | (exact hpo _) | rfl | decide) (by first | assumption | decide | omega) ?_
          rw [hH0.2.2.2.1]
          refine s119_71 (by first | assumption | rfl) (by first | assumption | (exact hpo _) | rfl | decide) (by first | assumption | decide | omega) ?_
          refine s119_74 ?_
          refine s119_75 (st := []) ?_
          rw [if_pos ⟨by omega, by omega⟩, if_neg (show ¬ a ≤ y0.1 3 by omega)] at hR
          refine hR _ _ _ hCa hFa ?_ ⟨(show 0 ≤ a ∧ a ≤ 2000000 by omega), ok0.2.1, ok0.2.2⟩
          rw [settle_r (by omega) (by omega) (by omega)]
        · refine s119_64 ?_
          refine s119_65 (st := []) ?_
          rw [if_pos ⟨by omega, by omega⟩, if_pos (show a ≤ y0.1 3 by omega)] at hR
          refine hR _ _ _ hC0 hF0 ?_ ok0
          rw [s0]
          unfold yraise
          rw [if_pos (show a ≤ y0.1 3 by omega)]
  refine s119_9 rfl ?_
  refine s119_10 (by first | assumption | rfl) (by first | assumption | (exact hpo _) | rfl | decide) (by first | assumption | decide | omega) ?_
  rw [e6]
  refine s119_13 ⟨by omega, by omega⟩ (fun h13 => ?_) (fun h13 => ?_)
  · refine s119_27 rfl ?_
    refine s119_28 rfl ?_
    refine s119_29 (by first | assumption | rfl) (by first | assumption | (exact hpo _) | rfl | decide) (by first | assumption | decide | omega) ?_
    rw [e7]
    refine s119_32 (by first | assumption | rfl) (by first | assumption | (exact hpo _) | rfl | decide) (by first | assumption | decide | omega) ?_
    exact go (by omega)
  · refine s119_16 rfl ?_
    refine s119_17 (by first | assumption | rfl) (by first | assumption | (exact hpo _) | rfl | decide) (by first | assumption | decide | omega) ?_
    rw [hH2.1]
    refine s119_20 ?_
    refine s119_22 ⟨by omega, by omega⟩ ⟨by omega, by omega⟩ (fun h22 => ?_) (fun h22 => ?_)
    · refine s119_27 rfl ?_
      refine s119_28 rfl ?_
      refine s119_29 (by first | assumption | rfl) (by first | assumption | (exact hpo _) | rfl | decide) (by first | assumption | decide | omega) ?_
      rw [e7]
      refine s119_32 (by first | assumption | rfl) (by first | assumption | (exact hpo _) | rfl | decide) (by first | assumption | decide | omega) ?_
      exact go (by omega)
    · refine s119_25 ?_
      refine s119_26 (st := []) ?_
      unfold yrecv at hR
      rw [if_pos ⟨by omega, by omega⟩] at hR
      refine hR _ _ _ hC rF.rf ?_ (hok _ ⟨by omega, by omega⟩)
      rw [settle_id (by omega) (by omega)]
end MT
