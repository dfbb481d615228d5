/-! 64.good: the reference reads the fields. -/
section MP
variable {S : Nat × (Nat → Int32)} {μ : xM} {g : Nat → Nat → Int} {n : Nat} {Q : xQ} {f : Int → Int} {sz : Int} {l : List tK}
def tB (sz : Int) (l : List tK) : Prop := l.length ≤ 30 ∧ ∀ i, i < l.length → 2 + 4 * (i : Int) ≤ (l.getD i tD).2.1 ∧ (l.getD i tD).2.1 < (l.getD i tD).2.2 ∧ (l.getD i tD).2.2 < sz ∧ 0 ≤ (l.getD i tD).1 ∧ (l.getD i tD).1 ≤ 9999
theorem tCH.tb (hs : sz ≤ 120) (h : tCH f sz 0 l) : tB sz l := by
  have := h.le
  exact ⟨by omega, fun i hi => by have := h.at _ _ (by omega) i hi; omega⟩
def tnum (f : Int → Int) (l : List tK) (i : Nat) (T : Int) : Int := if i < l.length ∧ (l.getD i tD).1 = T then tnum1 f (l.getD i tD) else -1
def tlet (f : Int → Int) (l : List tK) (i : Nat) (T : Int) : Int := if i < l.length ∧ (l.getD i tD).1 = T then tlet1 f (l.getD i tD) else -1
theorem tnum_b {i : Nat} {T : Int} : -1 ≤ tnum f l i T ∧ tnum f l i T ≤ 999999 := by
  unfold tnum
  split
  · exact tnum1_b _
  · omega
theorem tlet_b {i : Nat} {T : Int} (hb : ∀ p, -1 ≤ f p ∧ f p ≤ 127) : -1 ≤ tlet f l i T ∧ tlet f l i T ≤ 127 := by
  unfold tlet tlet1
  split
  · split
    · exact hb _
    · omega
  · omega
theorem l108 {i : Nat} {T r : Int} (hF : tF g f sz) (hT : tT g l) (hA : tB sz l) (hi : i < l.length) (h : Q (.inl (some (.int (I r)))) (x_vm g) n) :
    ∀ (d : Nat) (v k : Int), d ≤ 6 → k + d = (l.getD i tD).2.2 → (l.getD i tD).2.1 ≤ k → 0 ≤ v → v < 10 ^ (6 - d) → r = tnv f d v k → x_V S 108 48 [some (.ref 100), some (.int (I i)), some (.int (I T)), some (.int (I v)), some (.int (I k))] [] (x_vm g) n Q := by
  obtain ⟨k2, hs, hfr, hb, ho⟩ := hF
  have hl := hA.1
  obtain ⟨e1, e2, e3⟩ := hT.2 i hi
  obtain ⟨b1, b2, b3, b4, b5⟩ := hA.2 i hi
  intro d
  induction d with
  | zero =>
    intro v k h1 h2 h3 h4 h5 e
    rw [show tnv f 0 v k = v from rfl] at e
    refine s108_48 rfl ?_
    refine s108_50 rfl ?_
    refine s108_51 (by first | assumption | rfl) (by first | assumption | (exact hpo _) | rfl | decide) ?_
    refine s108_54 rfl ?_
    refine v_iald d108_55 (by first | assumption | rfl) (by omega) (by omega) (by omega) (by first | assumption | (exact hpo _) | rfl | decide) (by first | assumption | decide | omega) ?_
    rw [Int.toNat_natCast, e3]
    refine s108_56 ⟨by omega, by omega⟩ ⟨by omega, by omega⟩ (fun h56 => ?_) (fun h56 => ?_)
    · refine s108_96 rfl ?_
      refine s108_97 (st := []) ?_
      rw [← e]; exact h
    · exfalso; omega
  | succ d ih =>
    intro v k h1 h2 h3 h4 h5 e
    have e4 : (10 : Int) ^ (6 - (d + 1)) ≤ 100000 := by
      have : ∀ j : Nat, j ≤ 5 → (10 : Int) ^ j ≤ 100000 := by decide
      exact this _ (by omega)
    have e5 : (10 : Int) ^ (6 - d) = 10 * 10 ^ (6 - (d + 1)) := by
      rw [show 6 - d = (6 - (d + 1)) + 1 by omega, Int.pow_succ]
      omega
    have hbk := hb k
    rw [show tnv f (d + 1) v k = (if 48 ≤ f k ∧ f k ≤ 57 then tnv f d (10 * v + f k - 48) (k + 1) else -1) from rfl] at e
    refine s108_48 rfl ?_
    refine s108_50 rfl ?_
    refine s108_51 (by first | assumption | rfl) (by first | assumption | (exact hpo _) | rfl | decide) ?_
    refine s108_54 rfl ?_
    refine v_iald d108_55 (by first | assumption | rfl) (by omega) (by omega) (by omega) (by first | assumption | (exact hpo _) | rfl | decide) (by first | assumption | decide | omega) ?_
    rw [Int.toNat_natCast, e3]
    refine s108_56 ⟨by omega, by omega⟩ ⟨by omega, by omega⟩ (fun h56 => ?_) (fun h56 => ?_)
    · refine s108_96 rfl ?_
      refine s108_97 (st := []) ?_
      exfalso; omega
    · refine s108_59 rfl ?_
      refine s108_60 (by first | assumption | rfl) (by first | assumption | (exact hpo _) | rfl | decide) ?_
      refine s108_63 rfl ?_
      refine v_iald d108_65 (by first | assumption | rfl) (by omega) (by omega) (by omega) (by first | assumption | (exact hpo _) | rfl | decide) (by first | assumption | decide | omega) ?_
      rw [hfr k (by omega) (by omega)]
      refine s108_66 (by simp) ?_
      refine c106 ⟨by omega, by omega⟩ ?_
      refine ⟨_, rfl, ?_⟩
      generalize ez : (if 48 ≤ f k ∧ f k ≤ 57 then (1 : Int) else 0) = zz
      have hz : (zz = 1 ∧ (48 ≤ f k ∧ f k ≤ 57)) ∨ (zz = 0 ∧ ¬ (48 ≤ f k ∧ f k ≤ 57)) := by
        rw [← ez]
        split
        · exact Or.inl ⟨rfl, by assumption⟩
        · exact Or.inr ⟨rfl, by assumption⟩
      refine s108_69 ⟨by omega, by omega⟩ (fun h69 => ?_) (fun h69 => ?_)
      · refine s108_74 ?_
        refine s108_76 rfl ?_
        refine s108_77 ?_
        refine s108_78 rfl ?_
        refine s108_79 (by first | assumption | rfl) (by first | assumption | (exact hpo _) | rfl | decide) ?_
        refine s108_82 rfl ?_
        refine v_iald d108_84 (by first | assumption | rfl) (by omega) (by omega) (by omega) (by first | assumption | (exact hpo _) | rfl | decide) (by first | assumption | decide | omega) ?_
        rw [hfr k (by omega) (by omega)]
        refine s108_85 ?_
        refine s108_86 ?_
        refine s108_88 ?_
        refine s108_89 ?_
        refine s108_90 rfl ?_
        refine s108_93 ?_
        rw [if_pos (show 48 ≤ f k ∧ f k ≤ 57 by omega)] at e; exact ih _ _ (by omega) (by omega) (by omega) (by omega) (by omega) e
      · refine s108_72 ?_
        refine s108_73 (st := []) ?_
        rw [if_neg (by omega)] at e; rw [← e]; exact h
theorem c108 {i : Nat} {T : Int} (hF : tF g f sz) (hT : tT g l) (hA : tB sz l) (hi : i ≤ 100) (ht : ib T) (h : Q (.inl (some (.int (I (tnum f l i T))))) (x_vm g) n) : x_V S 108 0 [some (.ref 100), some (.int (I i)), some (.int (I T)), none, none] [] (x_vm g) n Q := by
  have hs := hF.2.1
  have hl := hA.1
  have k4 := hT.1
  obtain ⟨t1, t2⟩ := ht
  by_cases ci : i < l.length
  · obtain ⟨e1, e2, e3⟩ := hT.2 i ci
    obtain ⟨b1, b2, b3, b4, b5⟩ := hA.2 i ci
    by_cases ct : (l.getD i tD).1 = T
    · have er : tnum f l i T = tnum1 f (l.getD i tD) := if_pos ⟨ci, ct⟩
      unfold tnum1 at er
      refine s108_0 rfl ?_
      refine s108_1 rfl ?_
      refine s108_2 (by first | assumption | rfl) (by first | assumption | (exact hpo _) | rfl | decide) (by first | assumption | decide | omega) ?_
      refine s108_5 ⟨by omega, by omega⟩ ⟨by omega, by omega⟩ (fun h5 => ?_) (fun h5 => ?_)
      · refine s108_36 ?_
        refine s108_37 (st := []) ?_
        first
          | (exfalso; omega)
          | (rw [if_neg (by omega)] at er; rw [er] at h; exact h)
      · refine s108_8 rfl ?_
        refine s108_9 (by first | assumption | rfl) (by first | assumption | (exact hpo _) | rfl | decide) ?_
        refine s108_12 rfl ?_
        refine v_iald d108_13 (by first | assumption | rfl) (by omega) (by omega) (by omega) (by first | assumption | (exact hpo _) | rfl | decide) (by first | assumption | decide | omega) ?_
        rw [Int.toNat_natCast, e1]
        refine s108_14 rfl ?_
        refine s108_15 ⟨by omega, by omega⟩ ⟨by omega, by omega⟩ (fun h15 => ?_) (fun h15 => ?_)
        · refine s108_36 ?_
          refine s108_37 (st := []) ?_
          first
            | (exfalso; omega)
            | (rw [if_neg (by omega)] at er; rw [er] at h; exact h)
        · refine s108_18 rfl ?_
          refine s108_19 (by first | assumption | rfl) (by first | assumption | (exact hpo _) | rfl | decide) ?_
          refine s108_22 rfl ?_
          refine v_iald d108_23 (by first | assumption | rfl) (by omega) (by omega) (by omega) (by first | assumption | (exact hpo _) | rfl | decide) (by first | assumption | decide | omega) ?_
          rw [Int.toNat_natCast, e3]
          refine s108_24 rfl ?_
          refine s108_25 (by first | assumption | rfl) (by first | assumption | (exact hpo _) | rfl | decide) ?_
          refine s108_28 rfl ?_
          refine v_iald d108_29 (by first | assumption | rfl) (by omega) (by omega) (by omega) (by first | assumption | (exact hpo _) | rfl | decide) (by first | assumption | decide | omega) ?_
          rw [Int.toNat_natCast, e2]
          refine s108_30 ?_
          refine s108_31 ?_
          refine s108_33 ⟨by omega, by omega⟩ ⟨by omega, by omega⟩ (fun h33 => ?_) (fun h33 => ?_)
          · refine s108_38 ?_
            refine s108_39 ?_
            refine s108_40 rfl ?_
            refine s108_41 (by first | assumption | rfl) (by first | assumption | (exact hpo _) | rfl | decide) ?_
            refine s108_44 rfl ?_
            refine v_iald d108_45 (by first | assumption | rfl) (by omega) (by omega) (by omega) (by first | assumption | (exact hpo _) | rfl | decide) (by first | assumption | decide | omega) ?_
            rw [Int.toNat_natCast, e2]
            refine s108_46 ?_
            rw [if_pos (by omega)] at er
            refine l108 hF hT hA ci h _ _ _ (by omega) (by omega) (by omega) (by omega) ?_ er
            exact Int.pow_pos (by omega)
          · refine s108_36 ?_
            refine s108_37 (st := []) ?_
            first
              | (exfalso; omega)
              | (rw [if_neg (by omega)] at er; rw [er] at h; exact h)
    · have er : tnum f l i T = -1 := if_neg (fun z => ct z.2)
      rw [er] at h
      refine s108_0 rfl ?_
      refine s108_1 rfl ?_
      refine s108_2 (by first | assumption | rfl) (by first | assumption | (exact hpo _) | rfl | decide) (by first | assumption | decide | omega) ?_
      refine s108_5 ⟨by omega, by omega⟩ ⟨by omega, by omega⟩ (fun h5 => ?_) (fun h5 => ?_)
      · refine s108_36 ?_
        refine s108_37 (st := []) ?_
        exact h
      · refine s108_8 rfl ?_
        refine s108_9 (by first | assumption | rfl) (by first | assumption | (exact hpo _) | rfl | decide) ?_
        refine s108_12 rfl ?_
        refine v_iald d108_13 (by first | assumption | rfl) (by omega) (by omega) (by omega) (by first | assumption | (exact hpo _) | rfl | decide) (by first | assumption | decide | omega) ?_
        rw [Int.toNat_natCast, e1]
        refine s108_14 rfl ?_
        refine s108_15 ⟨by omega, by omega⟩ ⟨by omega, by omega⟩ (fun h15 => ?_) (fun h15 => ?_)
        · refine s108_36 ?_
          refine s108_37 (st := []) ?_
          exact h
        · exfalso; omega
  · have er : tnum f l i T = -1 := if_neg (fun z => ci z.1)
    rw [er] at h
    refine s108_0 rfl ?_
    refine s108_1 rfl ?_
    refine s108_2 (by first | assumption | rfl) (by first | assumption | (exact hpo _) | rfl | decide) (by first | assumption | decide | omega) ?_
    refine s108_5 ⟨by omega, by omega⟩ ⟨by omega, by omega⟩ (fun h5 => ?_) (fun h5 => ?_)
    · refine s108_36 ?_
      refine s108_37 (st := []) ?_
      exact h
    · exfalso; omega
theorem c109 {i : Nat} {T : Int} (hF : tF g f sz) (hT : tT g l) (hA : tB sz l) (hi : i ≤ 100) (ht : ib T) (h : Q (.inl (some (.int (I (tlet f l i T))))) (x_vm g) n) : x_V S 109 0 [some (.ref 100), some (.int (I i)), some (.int (I T))] [] (x_vm g) n Q := by
  obtain ⟨k2, hs, hfr, hb, ho⟩ := hF
  have hl := hA.1
  have k4 := hT.1
  obtain ⟨t1, t2⟩ := ht
  by_cases ci : i < l.length
  · obtain ⟨e1, e2, e3⟩ := hT.2 i ci
    obtain ⟨b1, b2, b3, b4, b5⟩ := hA.2 i ci
    by_cases ct : (l.getD i tD).1 = T
    · have er : tlet f l i T = tlet1 f (l.getD i tD) := if_pos ⟨ci, ct⟩
      unfold tlet1 at er
      refine s109_0 rfl ?_
      refine s109_1 rfl ?_
      refine s109_2 (by first | assumption | rfl) (by first | assumption | (exact hpo _) | rfl | decide) (by first | assumption | decide | omega) ?_
      refine s109_5 ⟨by omega, by omega⟩ ⟨by omega, by omega⟩ (fun h5 => ?_) (fun h5 => ?_)
      · refine s109_49 ?_
        refine s109_50 (st := []) ?_
        first
          | (exfalso; omega)
          | (rw [if_neg (by omega)] at er; rw [er] at h; exact h)
          | (rw [if_pos (by omega)] at er; rw [er] at h; exact h)
      · refine s109_8 rfl ?_
        refine s109_9 (by first | assumption | rfl) (by first | assumption | (exact hpo _) | rfl | decide) ?_
        refine s109_12 rfl ?_
        refine v_iald d109_13 (by first | assumption | rfl) (by omega) (by omega) (by omega) (by first | assumption | (exact hpo _) | rfl | decide) (by first | assumption | decide | omega) ?_
        rw [Int.toNat_natCast, e1]
        refine s109_14 rfl ?_
        refine s109_15 ⟨by omega, by omega⟩ ⟨by omega, by omega⟩ (fun h15 => ?_) (fun h15 => ?_)
        · refine s109_49 ?_
          refine s109_50 (st := []) ?_
          first
            | (exfalso; omega)
            | (rw [if_neg (by omega)] at er; rw [er] at h; exact h)
            | (rw [if_pos (by omega)] at er; rw [er] at h; exact h)
        · refine s109_18 rfl ?_
          refine s109_19 (by first | assumption | rfl) (by first | assumption | (exact hpo _) | rfl | decide) ?_
          refine s109_22 rfl ?_
          refine v_iald d109_23 (by first | assumption | rfl) (by omega) (by omega) (by omega) (by first | assumption | (exact hpo _) | rfl | decide) (by first | assumption | decide | omega) ?_
          rw [Int.toNat_natCast, e3]
          refine s109_24 rfl ?_
          refine s109_25 (by first | assumption | rfl) (by first | assumption | (exact hpo _) | rfl | decide) ?_
          refine s109_28 rfl ?_
          refine v_iald d109_29 (by first | assumption | rfl) (by omega) (by omega) (by omega) (by first | assumption | (exact hpo _) | rfl | decide) (by first | assumption | decide | omega) ?_
          rw [Int.toNat_natCast, e2]
          refine s109_30 ?_
          refine s109_31 ?_
          refine s109_32 ⟨by omega, by omega⟩ ⟨by omega, by omega⟩ (fun h32 => ?_) (fun h32 => ?_)
          · refine s109_49 ?_
            refine s109_50 (st := []) ?_
            first
              | (exfalso; omega)
              | (rw [if_neg (by omega)] at er; rw [er] at h; exact h)
              | (rw [if_pos (by omega)] at er; rw [er] at h; exact h)
          · refine s109_35 rfl ?_
            refine s109_36 (by first | assumption | rfl) (by first | assumption | (exact hpo _) | rfl | decide) ?_
            refine s109_39 rfl ?_
            refine s109_40 (by first | assumption | rfl) (by first | assumption | (exact hpo _) | rfl | decide) ?_
            refine s109_43 rfl ?_
            refine v_iald d109_44 (by first | assumption | rfl) (by omega) (by omega) (by omega) (by first | assumption | (exact hpo _) | rfl | decide) (by first | assumption | decide | omega) ?_
            rw [Int.toNat_natCast, e2]
            refine v_iald d109_45 (by first | assumption | rfl) (by omega) (by omega) (by omega) (by first | assumption | (exact hpo _) | rfl | decide) (by first | assumption | decide | omega) ?_
            rw [hfr _ (by omega) (by omega)]
            refine s109_46 ?_
            refine s109_50 (st := []) ?_
            first
              | (exfalso; omega)
              | (rw [if_neg (by omega)] at er; rw [er] at h; exact h)
              | (rw [if_pos (by omega)] at er; rw [er] at h; exact h)
    · have er : tlet f l i T = -1 := if_neg (fun z => ct z.2)
      rw [er] at h
      refine s109_0 rfl ?_
      refine s109_1 rfl ?_
      refine s109_2 (by first | assumption | rfl) (by first | assumption | (exact hpo _) | rfl | decide) (by first | assumption | decide | omega) ?_
      refine s109_5 ⟨by omega, by omega⟩ ⟨by omega, by omega⟩ (fun h5 => ?_) (fun h5 => ?_)
      · refine s109_49 ?_
        refine s109_50 (st := []) ?_
        exact h
      · refine s109_8 rfl ?_
        refine s109_9 (by first | assumption | rfl) (by first | assumption | (exact hpo _) | rfl | decide) ?_
        refine s109_12 rfl ?_
        refine v_iald d109_13 (by first | assumption | rfl) (by omega) (by omega) (by omega) (by first | assumption | (exact hpo _) | rfl | decide) (by first | assumption | decide | omega) ?_
        rw [Int.toNat_natCast, e1]
        refine s109_14 rfl ?_
        refine s109_15 ⟨by omega, by omega⟩ ⟨by omega, by omega⟩ (fun h15 => ?_) (fun h15 => ?_)
        · refine s109_49 ?_
          refine s109_50 (st := []) ?_
          exact h
        · exfalso; omega
  · have er : tlet f l i T = -1 := if_neg (fun z => ci z.1)
    rw [er] at h
    refine s109_0 rfl ?_
    refine s109_1 rfl ?_
    refine s109_2 (by first | assumption | rfl) (by first | assumption | (exact hpo _) | rfl | decide) (by first | assumption | decide | omega) ?_
    refine s109_5 ⟨by omega, by omega⟩ ⟨by omega, by omega⟩ (fun h5 => ?_) (fun h5 => ?_)
    · refine s109_49 ?_
      refine s109_50 (st := []) ?_
      exact h
    · exfalso; omega
end MP
