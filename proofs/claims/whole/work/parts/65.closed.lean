/-! 65.closed: the reference checks length and sum. -/
section MP
variable {S : Nat × (Nat → Int32)} {μ : xM} {g : Nat → Nat → Int} {n : Nat} {Q : xQ} {f : Int → Int} {sz : Int} {l : List tK}
def tcl (f : Int → Int) (l : List tK) : Prop := 5 ≤ l.length ∧ (l.getD (l.length - 1) tD).1 = 10 ∧ (l.getD (l.length - 1) tD).2.2 - (l.getD (l.length - 1) tD).2.1 = 3 ∧ 0 ≤ tnum f l (l.length - 1) 10 ∧ tnum f l (l.length - 1) 10 = zsmb f ((l.getD (l.length - 1) tD).2.1 - 3).toNat ∧ tnum f l 1 9 = (l.getD (l.length - 1) tD).2.1 - 3 - (l.getD 1 tD).2.2 - 1
theorem l110 {w1 : Option Value} {E : Nat} (hF : tF g f sz) (hE : (E : Int) ≤ sz)
    (h : x_V S 110 88 [some (.ref 100), w1, some (.int (I E)), some (.int (I (x_sm (fun j => f (j : Int)) E))), some (.int (I E))] [] (x_vm g) n Q) :
    ∀ d j : Nat, j + d = E → x_V S 110 66 [some (.ref 100), w1, some (.int (I E)), some (.int (I (x_sm (fun j => f (j : Int)) j))), some (.int (I j))] [] (x_vm g) n Q := by
  obtain ⟨k2, hs, hfr, hb, ho⟩ := hF
  intro d
  induction d with
  | zero =>
    intro j hj
    have ej : j = E := by omega
    rw [ej]
    refine s110_66 rfl ?_
    refine s110_68 rfl ?_
    refine s110_69 ⟨by omega, by omega⟩ ⟨by omega, by omega⟩ (fun h69 => ?_) (fun h69 => ?_)
    · exact h
    · exfalso; omega
  | succ d ih =>
    intro j hj
    refine s110_66 rfl ?_
    refine s110_68 rfl ?_
    refine s110_69 ⟨by omega, by omega⟩ ⟨by omega, by omega⟩ (fun h69 => ?_) (fun h69 => ?_)
    · exfalso; omega
    · refine s110_72 rfl ?_
      refine s110_73 rfl ?_
      refine s110_74 (by first | assumption | rfl) (by first | assumption | (exact hpo _) | rfl | decide) ?_
      refine s110_77 rfl ?_
      refine v_iald d110_79 (by first | assumption | rfl) (by omega) (by omega) (by omega) (by first | assumption | (exact hpo _) | rfl | decide) (by first | assumption | decide | omega) ?_
      rw [hfr j (by omega) (by omega)]
      refine s110_80 ?_
      refine s110_81 ?_
      refine s110_82 rfl ?_
      refine s110_85 ?_
      exact ih (j + 1) (by omega)
theorem c110 (hF : tF g f sz) (hT : tT g l) (hA : tB sz l) (hY : tcl f l → Q (.inl (some (.int (I 1)))) (x_vm g) n) (hN : ¬ tcl f l → Q (.inl (some (.int (I 0)))) (x_vm g) n) : x_V S 110 0 [some (.ref 100), none, none, none, none] [] (x_vm g) n Q := by
  have hs := hF.2.1
  have hl := hA.1
  have k4 := hT.1
  unfold tcl at hY hN
  by_cases c5 : 5 ≤ l.length
  · obtain ⟨e1, e2, e3⟩ := hT.2 (l.length - 1) (by omega)
    obtain ⟨b1, b2, b3, b4, b5⟩ := hA.2 (l.length - 1) (by omega)
    obtain ⟨f1, f2, f3⟩ := hT.2 1 (by omega)
    obtain ⟨d1, d2, d3, d4, d5⟩ := hA.2 1 (by omega)
    have n1 := tnum_b (f := f) (l := l) (i := l.length - 1) (T := 10)
    have n2 := tnum_b (f := f) (l := l) (i := 1) (T := 9)
    have ez : ∀ E : Nat, zsmb f E = x_sm (fun j => f (j : Int)) E % 256 := fun _ => rfl
    have fin : ∀ E : Nat, (E : Int) = (l.getD (l.length - 1) tD).2.1 - 3 → (l.getD (l.length - 1) tD).1 = 10 → (l.getD (l.length - 1) tD).2.2 - (l.getD (l.length - 1) tD).2.1 = 3 → 0 ≤ tnum f l (l.length - 1) 10 → x_V S 110 88 [some (.ref 100), some (.int (I ((l.length - 1 : Nat) : Int))), some (.int (I E)), some (.int (I (x_sm (fun j => f (j : Int)) E))), some (.int (I E))] [] (x_vm g) n Q := by
      intro E hE q1 q2 q3
      have sb := x_sm_b (f := fun j => f (j : Int)) (N := E) (fun j hj => by have := hF.2.2.2.1 (j : Int); have := hF.2.2.2.2 (j : Int); show 0 ≤ f (j : Int) ∧ f (j : Int) ≤ 127; omega) E (by omega)
      have ez := ez E
      rw [show ((l.getD (l.length - 1) tD).2.1 - 3).toNat = E by omega] at hY hN
      generalize x_sm (fun j => f (j : Int)) E = sm at sb ez ⊢
      rw [ez] at hY hN
      refine s110_88 rfl ?_
      refine s110_89 rfl ?_
      refine s110_90 ?_
      refine s110_92 (by first | assumption | rfl) (by simp) ?_
      refine c108 hF hT hA (by omega) ⟨by omega, by omega⟩ ?_
      refine ⟨_, rfl, ?_⟩
      refine s110_95 rfl ?_
      refine s110_96 ?_
      refine s110_99 ⟨by omega, by omega⟩ ⟨by omega, by omega⟩ (by omega) (by omega) ?_
      refine s110_100 ⟨by omega, by omega⟩ ⟨by omega, by omega⟩ (fun h100 => ?_) (fun h100 => ?_)
      · refine s110_127 ?_
        refine s110_128 (st := []) (by omega) ?_
        first
          | exact hN (fun z => by omega)
          | exact hY ⟨c5, q1, q2, q3, by omega, by omega⟩
      · refine s110_103 rfl ?_
        refine s110_104 ?_
        refine s110_105 ?_
        refine s110_107 (by first | assumption | rfl) (by simp) ?_
        refine c108 (i := 1) hF hT hA (by omega) ⟨by omega, by omega⟩ ?_
        refine ⟨_, rfl, ?_⟩
        refine s110_110 rfl ?_
        refine s110_111 rfl ?_
        refine s110_112 (by first | assumption | rfl) (by first | assumption | (exact hpo _) | rfl | decide) ?_
        refine s110_115 ?_
        refine v_iald d110_116 (by first | assumption | rfl) (by omega) (by omega) (by omega) (by first | assumption | (exact hpo _) | rfl | decide) (by first | assumption | decide | omega) ?_
        rw [show (1 : Int).toNat = 1 from rfl, f3]
        refine s110_117 ?_
        refine s110_118 ?_
        refine s110_119 ?_
        refine s110_120 ⟨by omega, by omega⟩ ⟨by omega, by omega⟩ (fun h120 => ?_) (fun h120 => ?_)
        · refine s110_127 ?_
          refine s110_128 (st := []) (by omega) ?_
          first
            | exact hN (fun z => by omega)
            | exact hY ⟨c5, q1, q2, q3, by omega, by omega⟩
        · refine s110_123 ?_
          refine s110_124 ?_
          refine s110_128 (st := []) (by omega) ?_
          first
            | exact hN (fun z => by omega)
            | exact hY ⟨c5, q1, q2, q3, by omega, by omega⟩
    refine s110_0 rfl ?_
    refine s110_1 (by first | assumption | rfl) (by first | assumption | (exact hpo _) | rfl | decide) (by first | assumption | decide | omega) ?_
    refine s110_4 ?_
    refine s110_5 ?_
    rw [show g 100 4 - 1 = ((l.length - 1 : Nat) : Int) by omega]
    refine s110_6 ?_
    refine s110_7 rfl ?_
    refine s110_8 ?_
    refine s110_9 ⟨by omega, by omega⟩ ⟨by omega, by omega⟩ (fun h9 => ?_) (fun h9 => ?_)
    · refine s110_50 ?_
      refine s110_51 (st := []) (by omega) ?_
      first | (exfalso; omega) | exact hN (fun z => by omega)
    · refine s110_12 rfl ?_
      refine s110_13 (by first | assumption | rfl) (by first | assumption | (exact hpo _) | rfl | decide) ?_
      refine s110_16 rfl ?_
      refine v_iald d110_17 (by first | assumption | rfl) (by omega) (by omega) (by omega) (by first | assumption | (exact hpo _) | rfl | decide) (by first | assumption | decide | omega) ?_
      rw [Int.toNat_natCast, e1]
      refine s110_18 ?_
      refine s110_20 ⟨by omega, by omega⟩ ⟨by omega, by omega⟩ (fun h20 => ?_) (fun h20 => ?_)
      · refine s110_50 ?_
        refine s110_51 (st := []) (by omega) ?_
        first | (exfalso; omega) | exact hN (fun z => by omega)
      · refine s110_23 rfl ?_
        refine s110_24 (by first | assumption | rfl) (by first | assumption | (exact hpo _) | rfl | decide) ?_
        refine s110_27 rfl ?_
        refine v_iald d110_28 (by first | assumption | rfl) (by omega) (by omega) (by omega) (by first | assumption | (exact hpo _) | rfl | decide) (by first | assumption | decide | omega) ?_
        rw [Int.toNat_natCast, e3]
        refine s110_29 rfl ?_
        refine s110_30 (by first | assumption | rfl) (by first | assumption | (exact hpo _) | rfl | decide) ?_
        refine s110_33 rfl ?_
        refine v_iald d110_34 (by first | assumption | rfl) (by omega) (by omega) (by omega) (by first | assumption | (exact hpo _) | rfl | decide) (by first | assumption | decide | omega) ?_
        rw [Int.toNat_natCast, e2]
        refine s110_35 ?_
        refine s110_36 ?_
        refine s110_37 ⟨by omega, by omega⟩ ⟨by omega, by omega⟩ (fun h37 => ?_) (fun h37 => ?_)
        · refine s110_50 ?_
          refine s110_51 (st := []) (by omega) ?_
          first | (exfalso; omega) | exact hN (fun z => by omega)
        · refine s110_40 rfl ?_
          refine s110_41 rfl ?_
          refine s110_42 ?_
          refine s110_44 (by first | assumption | rfl) (by simp) ?_
          refine c108 hF hT hA (by omega) ⟨by omega, by omega⟩ ?_
          refine ⟨_, rfl, ?_⟩
          refine s110_47 ⟨by omega, by omega⟩ (fun h47 => ?_) (fun h47 => ?_)
          · refine s110_52 rfl ?_
            refine s110_53 (by first | assumption | rfl) (by first | assumption | (exact hpo _) | rfl | decide) ?_
            refine s110_56 rfl ?_
            refine v_iald d110_57 (by first | assumption | rfl) (by omega) (by omega) (by omega) (by first | assumption | (exact hpo _) | rfl | decide) (by first | assumption | decide | omega) ?_
            rw [Int.toNat_natCast, e2]
            refine s110_58 ?_
            refine s110_59 ?_
            rw [show (l.getD (l.length - 1) tD).2.1 - 3 = (((l.getD (l.length - 1) tD).2.1 - 3).toNat : Int) by omega]
            refine s110_60 ?_
            refine s110_61 ?_
            refine s110_62 ?_
            refine s110_63 ?_
            refine s110_64 ?_
            exact l110 hF (by omega) (fin _ (by omega) (by omega) (by omega) (by omega)) _ 0 (Nat.zero_add _)
          · refine s110_50 ?_
            refine s110_51 (st := []) (by omega) ?_
            first | (exfalso; omega) | exact hN (fun z => by omega)
  · have hN := hN (fun z => c5 z.1)
    refine s110_0 rfl ?_
    refine s110_1 (by first | assumption | rfl) (by first | assumption | (exact hpo _) | rfl | decide) (by first | assumption | decide | omega) ?_
    refine s110_4 ?_
    refine s110_5 ?_
    refine s110_6 ?_
    refine s110_7 rfl ?_
    refine s110_8 ?_
    refine s110_9 ⟨by omega, by omega⟩ ⟨by omega, by omega⟩ (fun h9 => ?_) (fun h9 => ?_)
    · refine s110_50 ?_
      refine s110_51 (st := []) (by omega) ?_
      exact hN
    · exfalso; omega
end MP
