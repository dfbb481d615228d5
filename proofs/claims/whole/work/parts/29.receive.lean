/-! 29.receive: Session.receive over the mathematical value. -/
section CR
variable {S : Nat × (Nat → Int32)} {μ : xM} {g : Nat → Nat → Int} {n v : Nat} {Q : xQ} {y : yS} {B : Int}
/-- what the message at hand says: type, number, duplicate, three values -/
def yH (g : Nat → Nat → Int) (t m d a b c : Int) : Prop := g 6 0 = t ∧ g 6 1 = m ∧ g 6 2 = d ∧ g 7 0 = a ∧ g 7 1 = b ∧ g 7 2 = c
theorem yH.tr {g' : Nat → Nat → Int} {t m d a b c : Int} (h : yH g t m d a b c) (hF : yF g g') : yH g' t m d a b c := by
  obtain ⟨h1, h2, h3, h4, h5, h6⟩ := h
  exact ⟨(hF _ _ (by omega)).trans h1, (hF _ _ (by omega)).trans h2, (hF _ _ (by omega)).trans h3, (hF _ _ (by omega)).trans h4, (hF _ _ (by omega)).trans h5, (hF _ _ (by omega)).trans h6⟩
def ypt (t : Int) : Prop := t = 48 ∨ t = 49 ∨ t = 50 ∨ t = 52 ∨ t = 53 ∨ t = 65 ∨ t = 68 ∨ t = 70 ∨ t = 71
/-- which of the values are numbers of a frame: those that the type has -/
def yHB (t m d a b c : Int) : Prop := ypt t ∧ (0 ≤ m ∧ m ≤ 999999) ∧ (d = 0 ∨ d = 1) ∧ (-1 ≤ a ∧ a ≤ 999999) ∧ (-1 ≤ b ∧ b ≤ 999999) ∧ (-1 ≤ c ∧ c ≤ 999999) ∧ (t ≠ 48 → t ≠ 53 → 0 ≤ a) ∧ (t = 50 ∨ t = 52 ∨ t = 68 ∨ t = 70 ∨ t = 71 → 0 ≤ b) ∧ (t = 68 ∨ t = 71 → 0 ≤ c)
def yorder (y : yS) (t a b c : Int) : yS :=
  match ycarry y t a b c with
  | none => yrep y a 56 0 0
  | some (k, y') => yrep y' a (48 + yst (y'.2.2.2.1.getD k yE)) (y'.2.2.2.1.getD k yE).2.2.2.1 (ylf (y'.2.2.2.1.getD k yE))
def yturn (y : yS) (t a b c : Int) : yS := if t = 49 then ysend y 48 a 0 else if t = 50 then yresend y a b else if t = 52 then yraise y a else if t = 53 then ylogout y else if t = 68 ∨ t = 70 ∨ t = 71 then yorder (yset y 8 (y.1 8 + 1)) t a b c else y
def yearly1 (y : yS) (t a b : Int) : yS := if t = 50 then yresend y a b else if t = 53 then ylogout y else y
def yearly2 (y : yS) (m : Int) : yS := yset y 5 (if y.1 5 < m then m else y.1 5)
def yearly3 (y : yS) (m : Int) : yS := if y.1 6 = 0 then y else if y.1 5 = 0 then yearly2 (yask y) m else yearly2 y m
def yearly (y : yS) (t m a b : Int) : yS := yearly3 (yearly1 y t a b) m
theorem yB.raise {m : Int} (hB : yB B y) (hm : 0 ≤ m ∧ m ≤ B) : yB B (yraise y m) := by
  have b5 := hB.1 5 (by omega) (by omega)
  unfold yraise
  split
  · exact hB
  · split
    · exact (hB.set hm).set (by omega)
    · exact hB.set hm
theorem yraise_2 {m : Int} : (yraise y m).2 = y.2 := by
  unfold yraise
  split
  · rfl
  · split <;> rfl
theorem yB.leave (hB : yB B y) : yB B (yleave y) := (hB.set (by have := hB.1 5 (by omega) (by omega); omega)).set (by have := hB.1 5 (by omega) (by omega); omega)
theorem yB.logout (hB : yB B y) (h : B + 1 ≤ 100000000) : yB (B + 1) (ylogout y) := (hB.send h).leave
theorem yB.ans {last : Int} : ∀ (l : List yR) (y : yS) (u B : Int), yB B y → B + 2 * l.length + 1 ≤ 100000000 → yB (B + 2 * l.length + 1) (yans last l y u)
  | [], y, u, B, hB, h => by
    rw [yans]
    have := hB.gap (f := u) (b := last + 1) (by simp only [List.length_nil] at h; omega)
    simpa using this
  | r :: l, y, u, B, hB, h => by
    rw [yans]
    rw [List.length_cons] at h ⊢
    split
    · have := yB.ans (last := last) l _ (r.1 + 1) (B + 1 + 1) ((hB.gap (f := u) (b := r.1) (by omega)).post (m := (56, r.1, 1, r.2.1, r.2.2.1, r.2.2.2.1, r.2.2.2.2)) (by omega)) (by omega)
      exact this.up (by omega) (by omega)
    · exact (yB.ans l y u B hB (by omega)).up (by omega) (by omega)
theorem yB.resend {f t : Int} (hB : yB B y) (hl : y.2.2.1.length ≤ 512) (h : B + 1100 ≤ 100000000) : yB (B + 1100) (yresend y f t) := (yB.ans _ _ _ B hB (by omega)).up (by omega) (by omega)
theorem yB.early1 {t a b : Int} (hB : yB B y) (hl : y.2.2.1.length ≤ 512) (h : B + 1100 ≤ 100000000) : yB (B + 1100) (yearly1 y t a b) := by
  unfold yearly1
  split
  · exact hB.resend hl h
  · split
    · exact (hB.logout (by omega)).up (by omega) (by omega)
    · exact hB.up (by omega) (by omega)
theorem c60 {t m d a b c : Int} (hC : yC g y) (hB : yB B y) (hB2 : B + 1200 ≤ 100000000) (hN : yN y) (hH : yH g t m d a b c) (hh : yHB t m d a b c) (h : ∀ g', yC g' (yearly y t m a b) → yF g g' → Q (.inl (some (.int (I 3)))) (x_vm g') n) : x_V S 60 0 [some (.ref 8), some (.ref 6)] [] (x_vm g) n Q := by
  have h512 := hC.2.2.1.2.1
  have hBe := hB.early1 (t := t) (a := a) (b := b) h512 (by omega)
  unfold yearly at h
  have p2 : ∀ (y2 : yS) (g2 : Nat → Nat → Int), yC g2 y2 → yB (B + 1101) y2 → yH g2 t m d a b c → (∀ g', yC g' (yearly2 y2 m) → yF g2 g' → Q (.inl (some (.int (I 3)))) (x_vm g') n) → x_V S 60 59 [some (.ref 8), some (.ref 6)] [] (x_vm g2) n Q := by
    intro y2 g2 hC2 hB2' hH2 h2
    have e5 := hC2.1 5 (by omega) (by omega)
    have b5 := hB2'.1 5 (by omega) (by omega)
    have em := hH2.2.1
    have hm := hh.2.1
    unfold yearly2 at h2
    refine s60_59 rfl ?_
    refine s60_60 rfl ?_
    refine s60_61 (by first | assumption | rfl) (by first | assumption | (exact hpo _) | rfl | decide) (by first | assumption | decide | omega) ?_
    rw [e5]
    refine s60_64 rfl ?_
    refine s60_65 (by first | assumption | rfl) (by first | assumption | (exact hpo _) | rfl | decide) (by first | assumption | decide | omega) ?_
    rw [em]
    refine s60_68 (by simp) ⟨by omega, by omega⟩ ⟨by omega, by omega⟩ ?_
    refine s60_71 (by first | assumption | rfl) (by first | assumption | (exact hpo _) | rfl | decide) (by first | assumption | decide | omega) ?_
    refine s60_74 ?_
    refine s60_75 (st := []) ?_
    exact h2 _ hC2.set yF.u8
  have p1 : ∀ (y1 : yS) (g1 : Nat → Nat → Int), yC g1 y1 → yB (B + 1100) y1 → yH g1 t m d a b c → (∀ g', yC g' (yearly3 y1 m) → yF g1 g' → Q (.inl (some (.int (I 3)))) (x_vm g') n) → x_V S 60 41 [some (.ref 8), some (.ref 6)] [] (x_vm g1) n Q := by
    intro y1 g1 hC1 hB1 hH1 h1
    have e5 := hC1.1 5 (by omega) (by omega)
    have b5 := hB1.1 5 (by omega) (by omega)
    have e6 := hC1.1 6 (by omega) (by omega)
    have b6 := hB1.1 6 (by omega) (by omega)
    unfold yearly3 at h1
    refine s60_41 rfl ?_
    refine s60_42 (by first | assumption | rfl) (by first | assumption | (exact hpo _) | rfl | decide) (by first | assumption | decide | omega) ?_
    refine s60_45 ⟨by omega, by omega⟩ (fun h45 => ?_) (fun h45 => ?_)
    · refine s60_74 ?_
      refine s60_75 (st := []) ?_
      rw [if_pos (by omega)] at h1
      exact h1 _ hC1 yF.rf
    · refine s60_48 rfl ?_
      refine s60_49 (by first | assumption | rfl) (by first | assumption | (exact hpo _) | rfl | decide) (by first | assumption | decide | omega) ?_
      refine s60_52 ⟨by omega, by omega⟩ (fun h52 => ?_) (fun h52 => ?_)
      · rw [if_neg (show ¬ y1.1 6 = 0 by omega)] at h1
        first
          | (rw [if_neg (show ¬ y1.1 5 = 0 by omega)] at h1; exact p2 _ _ hC1 (hB1.up (by omega) (by omega)) hH1 h1)
          | (rw [if_pos (show y1.1 5 = 0 by omega)] at h1
             have hB3 := hB1.ask (by omega)
             rw [show B + 1100 + 1 = B + 1101 by omega] at hB3
             exact p2 _ _ hC2 hB3 (hH1.tr hF2) (fun g' q1 q2 => h1 g' q1 (hF2.tr q2)))
      · refine s60_55 rfl ?_
        refine s60_56 (by first | assumption | rfl) (by simp) ?_
        refine c63 hC1 hB1 (fun g2 hC2 hF2 => ?_)
        refine ⟨_, rfl, ?_⟩
        rw [if_neg (show ¬ y1.1 6 = 0 by omega)] at h1
        first
          | (rw [if_neg (show ¬ y1.1 5 = 0 by omega)] at h1; exact p2 _ _ hC1 (hB1.up (by omega) (by omega)) hH1 h1)
          | (rw [if_pos (show y1.1 5 = 0 by omega)] at h1
             have hB3 := hB1.ask (by omega)
             rw [show B + 1100 + 1 = B + 1101 by omega] at hB3
             exact p2 _ _ hC2 hB3 (hH1.tr hF2) (fun g' q1 q2 => h1 g' q1 (hF2.tr q2)))
  obtain ⟨et, em, ed, ea, eb, ec⟩ := hH
  have hH : yH g t m d a b c := ⟨et, em, ed, ea, eb, ec⟩
  have ea' : g 7 (Int.toNat 0) = a := ea
  have eb' : g 7 (Int.toNat 1) = b := eb
  have ht : 48 ≤ t ∧ t ≤ 71 := by have := hh.1; unfold ypt at this; omega
  unfold yearly1 at h hBe
  refine s60_0 rfl ?_
  refine s60_1 (by first | assumption | rfl) (by first | assumption | (exact hpo _) | rfl | decide) (by first | assumption | decide | omega) ?_
  rw [et]
  refine s60_4 ?_
  refine s60_6 ⟨by omega, by omega⟩ ⟨by omega, by omega⟩ (fun h6 => ?_) (fun h6 => ?_)
  · refine s60_28 rfl ?_
    refine s60_29 (by first | assumption | rfl) (by first | assumption | (exact hpo _) | rfl | decide) (by first | assumption | decide | omega) ?_
    rw [et]
    refine s60_32 ?_
    refine s60_34 ⟨by omega, by omega⟩ ⟨by omega, by omega⟩ (fun h34 => ?_) (fun h34 => ?_)
    · first
        | (rw [if_pos (show t = 50 by omega)] at h hBe; exact p1 _ _ hC1 hBe (hH.tr hF1) (fun g' q1 q2 => h g' q1 (hF1.tr q2)))
        | (rw [if_neg (show ¬ t = 50 by omega), if_pos (show t = 53 by omega)] at h hBe; exact p1 _ _ hC1 hBe (hH.tr hF1) (fun g' q1 q2 => h g' q1 (hF1.tr q2)))
        | (rw [if_neg (show ¬ t = 50 by omega), if_neg (show ¬ t = 53 by omega)] at h hBe; exact p1 _ _ hC hBe hH h)
    · refine s60_37 rfl ?_
      refine s60_38 (by first | assumption | rfl) (by simp) ?_
      refine c64 hC hB (fun g1 hC1 hF1 => ?_)
      refine ⟨_, rfl, ?_⟩
      first
        | (rw [if_pos (show t = 50 by omega)] at h hBe; exact p1 _ _ hC1 hBe (hH.tr hF1) (fun g' q1 q2 => h g' q1 (hF1.tr q2)))
        | (rw [if_neg (show ¬ t = 50 by omega), if_pos (show t = 53 by omega)] at h hBe; exact p1 _ _ hC1 hBe (hH.tr hF1) (fun g' q1 q2 => h g' q1 (hF1.tr q2)))
        | (rw [if_neg (show ¬ t = 50 by omega), if_neg (show ¬ t = 53 by omega)] at h hBe; exact p1 _ _ hC hBe hH h)
  · refine s60_9 rfl ?_
    refine s60_10 rfl ?_
    refine s60_11 (by first | assumption | rfl) (by first | assumption | (exact hpo _) | rfl | decide) ?_
    refine s60_14 ?_
    refine v_iald d60_15 (by first | assumption | rfl) (by omega) (by omega) (by omega) (by first | assumption | (exact hpo _) | rfl | decide) (by first | assumption | decide | omega) ?_
    rw [ea']
    refine s60_16 rfl ?_
    refine s60_17 (by first | assumption | rfl) (by first | assumption | (exact hpo _) | rfl | decide) ?_
    refine s60_20 ?_
    refine v_iald d60_21 (by first | assumption | rfl) (by omega) (by omega) (by omega) (by first | assumption | (exact hpo _) | rfl | decide) (by first | assumption | decide | omega) ?_
    rw [eb']
    refine s60_22 (by first | assumption | rfl) (by simp) ?_
    have hhb := hh.2.2.2.2
    have hha := hh.2.2.2.1
    have hhc := hh.2.2.2.2.2.2.1 (by omega) (by omega)
    have hhd := hh.2.2.2.2.2.2.2.1 (by omega)
    refine c66 hC hB (by omega) hN ⟨by omega, by omega⟩ ⟨by omega, by omega⟩ (fun g1 hC1 hF1 => ?_)
    refine ⟨_, rfl, ?_⟩
    refine s60_25 ?_
    first
      | (rw [if_pos (show t = 50 by omega)] at h hBe; exact p1 _ _ hC1 hBe (hH.tr hF1) (fun g' q1 q2 => h g' q1 (hF1.tr q2)))
      | (rw [if_neg (show ¬ t = 50 by omega), if_pos (show t = 53 by omega)] at h hBe; exact p1 _ _ hC1 hBe (hH.tr hF1) (fun g' q1 q2 => h g' q1 (hF1.tr q2)))
      | (rw [if_neg (show ¬ t = 50 by omega), if_neg (show ¬ t = 53 by omega)] at h hBe; exact p1 _ _ hC hBe hH h)
theorem ycarry_ok {t a b c : Int} {k : Nat} {y' : yS} (hO : yO y) (ha : 0 ≤ a ∧ a ≤ 999999) (hb : 0 ≤ b ∧ b ≤ 999999) (hc : t = 68 ∨ t = 71 → 0 ≤ c ∧ c ≤ 999999) (ht : t = 68 ∨ t = 70 ∨ t = 71) (q : ycarry y t a b c = some (k, y')) : (yB B y → yB B y') ∧ y'.2.2.1 = y.2.2.1 ∧ k < y'.2.2.2.1.length ∧ ((0 ≤ (y'.2.2.2.1.getD k yE).2.2.1 ∧ (y'.2.2.2.1.getD k yE).2.2.1 ≤ 999999) ∧ (0 ≤ (y'.2.2.2.1.getD k yE).2.2.2.1 ∧ (y'.2.2.2.1.getD k yE).2.2.2.1 ≤ 999999) ∧ ((y'.2.2.2.1.getD k yE).2.2.2.2 = 0 ∨ (y'.2.2.2.1.getD k yE).2.2.2.2 = 1)) := by
  unfold ycarry at q
  split at q
  · cases q
  · split at q
    · split at q
      · cases q
      · cases q
        have := hc (by omega)
        refine ⟨fun h => h, rfl, ?_, ?_⟩
        · show y.2.2.2.1.length < (y.2.2.2.1 ++ [(a, b, c, 0, 0)]).length
          rw [List.length_append]; exact Nat.lt_succ_self _
        · have e : (y.2.2.2.1 ++ [(a, b, c, 0, 0)]).getD y.2.2.2.1.length yE = (a, b, c, 0, 0) := by rw [ygd_app, if_neg (Nat.lt_irrefl _), if_pos rfl]
          have e2 : (ybook y (y.2.2.2.1 ++ [(a, b, c, 0, 0)]) (y.2.2.2.2 ++ [a])).2.2.2.1.getD y.2.2.2.1.length yE = (a, b, c, 0, 0) := e
          rw [e2]
          show (0 ≤ c ∧ c ≤ 999999) ∧ ((0 : Int) ≤ 0 ∧ (0 : Int) ≤ 999999) ∧ ((0 : Int) = 0 ∨ (0 : Int) = 1)
          exact ⟨this, by omega, Or.inl rfl⟩
    · split at q
      · cases q
      · rename_i z0 z1 z2
        cases q
        have hk : yopen y.2.2.2.1 b < y.2.2.2.1.length := by
          have : yopen y.2.2.2.1 b ≤ y.2.2.2.1.length := List.findIdx_le_length
          rcases Nat.lt_or_ge (yopen y.2.2.2.1 b) y.2.2.2.1.length with q | q
          · exact q
          · exact absurd (Or.inl (Nat.le_antisymm this q)) z2
        have hr := hO.1 _ hk
        refine ⟨fun h => h, rfl, ?_, ?_⟩
        · show _ < (y.2.2.2.1.set _ _).length
          rw [List.length_set]; exact hk
        · have e2 : (ybook y (y.2.2.2.1.set (yopen y.2.2.2.1 b) (yamend (y.2.2.2.1.getD (yopen y.2.2.2.1 b) yE) t a c)) (y.2.2.2.2 ++ [a])).2.2.2.1.getD (yopen y.2.2.2.1 b) yE = yamend (y.2.2.2.1.getD (yopen y.2.2.2.1 b) yE) t a c := by
            show (y.2.2.2.1.set _ _).getD _ yE = _
            rw [ygd_set hk, if_pos rfl]
          rw [e2]
          unfold yamend
          refine ⟨?_, (show 0 ≤ (y.2.2.2.1.getD (yopen y.2.2.2.1 b) yE).2.2.2.1 ∧ (y.2.2.2.1.getD (yopen y.2.2.2.1 b) yE).2.2.2.1 ≤ 999999 by omega), ?_⟩
          · show 0 ≤ (if t = 70 then _ else c) ∧ (if t = 70 then _ else c) ≤ 999999
            split
            · exact ⟨by omega, by omega⟩
            · exact hc (by omega)
          · show (if t = 70 then (1 : Int) else _) = 0 ∨ (if t = 70 then (1 : Int) else _) = 1
            split
            · exact Or.inr rfl
            · exact hr.2.2.2.2.1
theorem c61 {t m d a b c : Int} (hC : yC g y) (hB : yB B y) (hB2 : B + 1200 ≤ 100000000) (hN : yN y) (hO : yO y) (hu : y.2.2.2.2.length < 512) (hl : y.2.2.1.length < 512) (hH : yH g t m d a b c) (hh : yHB t m d a b c) (h : ∀ g', yC g' (yturn y t a b c) → yF g g' → Q (.inl none) (x_vm g') n) : x_V S 61 0 [some (.ref 8), some (.ref 6)] [] (x_vm g) n Q := by
  obtain ⟨et, em, ed, ea, eb, ec⟩ := hH
  have ea' : g 7 (Int.toNat 0) = a := ea
  have eb' : g 7 (Int.toNat 1) = b := eb
  obtain ⟨hh1, hhm, hhd, hha, hhb, hhc, hka, hkb, hkc⟩ := hh
  have e8 := hC.1 8 (by omega) (by omega)
  have b8 := hB.1 8 (by omega) (by omega)
  have hC1 := hC.set (j := 8) (z := y.1 8 + 1)
  have hB1 : yB (B + 1) (yset y 8 (y.1 8 + 1)) := (hB.up (by omega) (by omega)).set (by omega)
  have ea2 : x_uf g 8 8 (y.1 8 + 1) 7 (Int.toNat 0) = a := by rw [x_uf_ne (by omega)]; exact ea
  unfold yturn at h
  unfold yorder at h
  refine s61_0 rfl ?_
  refine s61_1 rfl rfl (by decide) ?_
  rw [et]
  rcases hh1 with hh1 | hh1 | hh1 | hh1 | hh1 | hh1 | hh1 | hh1 | hh1
  · rw [hh1] at h ⊢
    refine x_tableOut (tgt := 199) (by decide) (by rfl) d61_4 ?_
    refine s61_199 (st := []) ?_
    exact h _ hC yF.rf
  · rw [hh1] at h ⊢
    refine x_tableIn (tgt := 112) (by decide) (by decide) (by rfl) (by rfl) d61_4 ?_
    refine s61_112 rfl ?_
    refine s61_113 ?_
    refine s61_115 rfl ?_
    refine s61_116 (by first | assumption | rfl) (by first | assumption | (exact hpo _) | rfl | decide) ?_
    refine s61_119 ?_
    refine v_iald d61_120 (by first | assumption | rfl) (by omega) (by omega) (by omega) (by first | assumption | (exact hpo _) | rfl | decide) (by first | assumption | decide | omega) ?_
    rw [ea']
    refine s61_121 ?_
    refine s61_122 (by first | assumption | rfl) (by simp) ?_
    refine c65 hC hB (fun g1 hC1 hF1 => ?_)
    refine ⟨_, rfl, ?_⟩
    refine s61_125 ?_
    refine s61_199 (st := []) ?_
    exact h _ hC1 hF1
  · rw [hh1] at h ⊢
    refine x_tableIn (tgt := 128) (by decide) (by decide) (by rfl) (by rfl) d61_4 ?_
    refine s61_128 rfl ?_
    refine s61_129 rfl ?_
    refine s61_130 (by first | assumption | rfl) (by first | assumption | (exact hpo _) | rfl | decide) ?_
    refine s61_133 ?_
    refine v_iald d61_134 (by first | assumption | rfl) (by omega) (by omega) (by omega) (by first | assumption | (exact hpo _) | rfl | decide) (by first | assumption | decide | omega) ?_
    rw [ea']
    refine s61_135 rfl ?_
    refine s61_136 (by first | assumption | rfl) (by first | assumption | (exact hpo _) | rfl | decide) ?_
    refine s61_139 ?_
    refine v_iald d61_140 (by first | assumption | rfl) (by omega) (by omega) (by omega) (by first | assumption | (exact hpo _) | rfl | decide) (by first | assumption | decide | omega) ?_
    rw [eb']
    refine s61_141 (by first | assumption | rfl) (by simp) ?_
    have := hka (by omega) (by omega)
    have := hkb (by omega)
    refine c66 hC hB (by omega) hN ⟨by omega, by omega⟩ ⟨by omega, by omega⟩ (fun g1 hC1 hF1 => ?_)
    refine ⟨_, rfl, ?_⟩
    refine s61_144 ?_
    refine s61_199 (st := []) ?_
    exact h _ hC1 hF1
  · rw [hh1] at h ⊢
    refine x_tableIn (tgt := 147) (by decide) (by decide) (by rfl) (by rfl) d61_4 ?_
    refine s61_147 rfl ?_
    refine s61_148 rfl ?_
    refine s61_149 (by first | assumption | rfl) (by first | assumption | (exact hpo _) | rfl | decide) ?_
    refine s61_152 ?_
    refine v_iald d61_153 (by first | assumption | rfl) (by omega) (by omega) (by omega) (by first | assumption | (exact hpo _) | rfl | decide) (by first | assumption | decide | omega) ?_
    rw [ea']
    refine s61_154 (by first | assumption | rfl) (by simp) ?_
    refine c62 hC hB ⟨by omega, by omega⟩ (fun g1 hC1 hF1 => ?_)
    refine ⟨_, rfl, ?_⟩
    refine s61_157 rfl ?_
    refine s61_158 ?_
    refine s61_199 (st := []) ?_
    exact h _ hC1 hF1
  · rw [hh1] at h ⊢
    refine x_tableIn (tgt := 161) (by decide) (by decide) (by rfl) (by rfl) d61_4 ?_
    refine s61_161 rfl ?_
    refine s61_162 (by first | assumption | rfl) (by simp) ?_
    refine c64 hC hB (fun g1 hC1 hF1 => ?_)
    refine ⟨_, rfl, ?_⟩
    refine s61_165 ?_
    refine s61_199 (st := []) ?_
    exact h _ hC1 hF1
  · rw [hh1] at h ⊢
    refine x_tableIn (tgt := 199) (by decide) (by decide) (by rfl) (by rfl) d61_4 ?_
    refine s61_199 (st := []) ?_
    exact h _ hC yF.rf
  · rw [hh1] at h ⊢
    refine x_tableIn (tgt := 168) (by decide) (by decide) (by rfl) (by rfl) d61_4 ?_
    refine s61_168 rfl ?_
    refine s61_169 rfl ?_
    refine s61_170 (by first | assumption | rfl) (by first | assumption | (exact hpo _) | rfl | decide) (by first | assumption | decide | omega) ?_
    rw [e8]
    refine s61_173 ?_
    refine s61_174 ?_
    refine s61_175 (by first | assumption | rfl) (by first | assumption | (exact hpo _) | rfl | decide) (by first | assumption | decide | omega) ?_
    refine s61_178 rfl ?_
    refine s61_179 rfl ?_
    refine s61_180 (by first | assumption | rfl) (by first | assumption | (exact hpo _) | rfl | decide) ?_
    refine s61_183 ?_
    refine v_iald d61_184 (by first | assumption | rfl) (by omega) (by omega) (by omega) (by first | assumption | (exact hpo _) | rfl | decide) (by first | assumption | decide | omega) ?_
    rw [ea2]
    refine s61_185 rfl ?_
    refine s61_186 (by first | assumption | rfl) (by first | assumption | (exact hpo _) | rfl | decide) ?_
    refine s61_189 rfl ?_
    refine s61_190 rfl (by first | assumption | rfl) (by simp) ?_
    refine c49 (t := 68) (a := a) (b := b) (c := c) hC1 hO hu (by rw [x_uf_ne (by omega), et, hh1]) (by rw [x_uf_ne (by omega), ea]) (by rw [x_uf_ne (by omega), eb]) (by rw [x_uf_ne (by omega), ec]) ⟨by omega, by omega⟩ ⟨by omega, by omega⟩ ⟨by omega, by omega⟩ ⟨by omega, by omega⟩ (fun q => ?_) (fun k y2 g2 q hC2 hF2 => ?_)
    · refine ⟨_, rfl, ?_⟩
      refine s61_193 rfl rfl (by simp) ?_
      rw [q] at h
      refine c58N hC1 hB1 hl (fun g3 hC3 hF3 => ?_)
      refine ⟨_, rfl, ?_⟩
      refine s61_196 ?_
      refine s61_199 (st := []) ?_
      exact h _ hC3 (yF.u8.tr hF3)
    · refine ⟨_, rfl, ?_⟩
      refine s61_193 rfl rfl (by simp) ?_
      rw [q] at h
      obtain ⟨f1, f2, f3, f4⟩ := ycarry_ok (B := B + 1) (y := yset y 8 (y.1 8 + 1)) hO ⟨by omega, by omega⟩ ⟨by omega, by omega⟩ (fun z => ⟨by omega, by omega⟩) (by omega) q
      refine c58 (k := k) hC2 (f1 hB1) (by rw [f2]; exact hl) f3 rfl f4 (fun g3 hC3 hF3 => ?_)
      refine ⟨_, rfl, ?_⟩
      refine s61_196 ?_
      refine s61_199 (st := []) ?_
      exact h _ hC3 ((yF.u8.tr hF2).tr hF3)
  · rw [hh1] at h ⊢
    refine x_tableIn (tgt := 168) (by decide) (by decide) (by rfl) (by rfl) d61_4 ?_
    refine s61_168 rfl ?_
    refine s61_169 rfl ?_
    refine s61_170 (by first | assumption | rfl) (by first | assumption | (exact hpo _) | rfl | decide) (by first | assumption | decide | omega) ?_
    rw [e8]
    refine s61_173 ?_
    refine s61_174 ?_
    refine s61_175 (by first | assumption | rfl) (by first | assumption | (exact hpo _) | rfl | decide) (by first | assumption | decide | omega) ?_
    refine s61_178 rfl ?_
    refine s61_179 rfl ?_
    refine s61_180 (by first | assumption | rfl) (by first | assumption | (exact hpo _) | rfl | decide) ?_
    refine s61_183 ?_
    refine v_iald d61_184 (by first | assumption | rfl) (by omega) (by omega) (by omega) (by first | assumption | (exact hpo _) | rfl | decide) (by first | assumption | decide | omega) ?_
    rw [ea2]
    refine s61_185 rfl ?_
    refine s61_186 (by first | assumption | rfl) (by first | assumption | (exact hpo _) | rfl | decide) ?_
    refine s61_189 rfl ?_
    refine s61_190 rfl (by first | assumption | rfl) (by simp) ?_
    refine c49 (t := 70) (a := a) (b := b) (c := c) hC1 hO hu (by rw [x_uf_ne (by omega), et, hh1]) (by rw [x_uf_ne (by omega), ea]) (by rw [x_uf_ne (by omega), eb]) (by rw [x_uf_ne (by omega), ec]) ⟨by omega, by omega⟩ ⟨by omega, by omega⟩ ⟨by omega, by omega⟩ ⟨by omega, by omega⟩ (fun q => ?_) (fun k y2 g2 q hC2 hF2 => ?_)
    · refine ⟨_, rfl, ?_⟩
      refine s61_193 rfl rfl (by simp) ?_
      rw [q] at h
      refine c58N hC1 hB1 hl (fun g3 hC3 hF3 => ?_)
      refine ⟨_, rfl, ?_⟩
      refine s61_196 ?_
      refine s61_199 (st := []) ?_
      exact h _ hC3 (yF.u8.tr hF3)
    · refine ⟨_, rfl, ?_⟩
      refine s61_193 rfl rfl (by simp) ?_
      rw [q] at h
      obtain ⟨f1, f2, f3, f4⟩ := ycarry_ok (B := B + 1) (y := yset y 8 (y.1 8 + 1)) hO ⟨by omega, by omega⟩ ⟨by omega, by omega⟩ (fun z => ⟨by omega, by omega⟩) (by omega) q
      refine c58 (k := k) hC2 (f1 hB1) (by rw [f2]; exact hl) f3 rfl f4 (fun g3 hC3 hF3 => ?_)
      refine ⟨_, rfl, ?_⟩
      refine s61_196 ?_
      refine s61_199 (st := []) ?_
      exact h _ hC3 ((yF.u8.tr hF2).tr hF3)
  · rw [hh1] at h ⊢
    refine x_tableIn (tgt := 168) (by decide) (by decide) (by rfl) (by rfl) d61_4 ?_
    refine s61_168 rfl ?_
    refine s61_169 rfl ?_
    refine s61_170 (by first | assumption | rfl) (by first | assumption | (exact hpo _) | rfl | decide) (by first | assumption | decide | omega) ?_
    rw [e8]
    refine s61_173 ?_
    refine s61_174 ?_
    refine s61_175 (by first | assumption | rfl) (by first | assumption | (exact hpo _) | rfl | decide) (by first | assumption | decide | omega) ?_
    refine s61_178 rfl ?_
    refine s61_179 rfl ?_
    refine s61_180 (by first | assumption | rfl) (by first | assumption | (exact hpo _) | rfl | decide) ?_
    refine s61_183 ?_
    refine v_iald d61_184 (by first | assumption | rfl) (by omega) (by omega) (by omega) (by first | assumption | (exact hpo _) | rfl | decide) (by first | assumption | decide | omega) ?_
    rw [ea2]
    refine s61_185 rfl ?_
    refine s61_186 (by first | assumption | rfl) (by first | assumption | (exact hpo _) | rfl | decide) ?_
    refine s61_189 rfl ?_
    refine s61_190 rfl (by first | assumption | rfl) (by simp) ?_
    refine c49 (t := 71) (a := a) (b := b) (c := c) hC1 hO hu (by rw [x_uf_ne (by omega), et, hh1]) (by rw [x_uf_ne (by omega), ea]) (by rw [x_uf_ne (by omega), eb]) (by rw [x_uf_ne (by omega), ec]) ⟨by omega, by omega⟩ ⟨by omega, by omega⟩ ⟨by omega, by omega⟩ ⟨by omega, by omega⟩ (fun q => ?_) (fun k y2 g2 q hC2 hF2 => ?_)
    · refine ⟨_, rfl, ?_⟩
      refine s61_193 rfl rfl (by simp) ?_
      rw [q] at h
      refine c58N hC1 hB1 hl (fun g3 hC3 hF3 => ?_)
      refine ⟨_, rfl, ?_⟩
      refine s61_196 ?_
      refine s61_199 (st := []) ?_
      exact h _ hC3 (yF.u8.tr hF3)
    · refine ⟨_, rfl, ?_⟩
      refine s61_193 rfl rfl (by simp) ?_
      rw [q] at h
      obtain ⟨f1, f2, f3, f4⟩ := ycarry_ok (B := B + 1) (y := yset y 8 (y.1 8 + 1)) hO ⟨by omega, by omega⟩ ⟨by omega, by omega⟩ (fun z => ⟨by omega, by omega⟩) (by omega) q
      refine c58 (k := k) hC2 (f1 hB1) (by rw [f2]; exact hl) f3 rfl f4 (fun g3 hC3 hF3 => ?_)
      refine ⟨_, rfl, ?_⟩
      refine s61_196 ?_
      refine s61_199 (st := []) ?_
      exact h _ hC3 ((yF.u8.tr hF2).tr hF3)
end CR
