/-! 51.orders: the reference's orders. -/
section MO
variable {S : Nat × (Nat → Int32)} {μ : xM} {g : Nat → Nat → Int} {n : Nat} {Q : xQ} {y : yS} {B : Int} {bs : List Int}
theorem rC4.at {l : List yR} (h : rC4 g l) {i : Nat} (hi : i < l.length) : g 109 i = (l.getD i yE).1 ∧ g 110 i = (l.getD i yE).2.1 ∧ g 111 i = (l.getD i yE).2.2.1 ∧ g 112 i = (l.getD i yE).2.2.2.1 ∧ g 113 i = (l.getD i yE).2.2.2.2 := by
  have := h.2.2 i hi
  exact ⟨congrArg (fun p => p.1) this, congrArg (fun p => p.2.1) this, congrArg (fun p => p.2.2.1) this, congrArg (fun p => p.2.2.2.1) this, congrArg (fun p => p.2.2.2.2) this⟩
theorem l112 {v : Int} {c : Nat} (hv : ib v) (hc : g 100 35 = c) (hc2 : c ≤ 512) (hi : ∀ i, i < c → ib (g 114 i))
    (hY : (∃ i, i < c ∧ g 114 i = v) → Q (.inl (some (.int (I 1)))) (x_vm g) n) (hN : (∀ j, j < c → g 114 j ≠ v) → Q (.inl (some (.int (I 0)))) (x_vm g) n) :
    ∀ (d i : Nat) (b : Int), i + d = c → ((b = 1 ∧ ∃ j, j < i ∧ g 114 j = v) ∨ (b = 0 ∧ ∀ j, j < i → g 114 j ≠ v)) → x_V S 112 4 [some (.ref 100), some (.int (I v)), some (.int (I b)), some (.int (I i))] [] (x_vm g) n Q := by
  obtain ⟨d1, d2⟩ := hv
  intro d
  induction d with
  | zero =>
    intro i b hi2 hb
    have hb2 : b = 0 ∨ b = 1 := by rcases hb with q | q; exact Or.inr q.1; exact Or.inl q.1
    refine s112_4 rfl ?_
    refine s112_5 rfl ?_
    refine s112_6 (by first | assumption | rfl) (by first | assumption | (exact hpo _) | rfl | decide) (by first | assumption | decide | omega) ?_
    refine s112_9 ⟨by omega, by omega⟩ ⟨by omega, by omega⟩ (fun h9 => ?_) (fun h9 => ?_)
    · refine s112_38 rfl ?_
      refine s112_39 (st := []) (by omega) ?_
      rcases hb with ⟨q1, j, q2, q3⟩ | ⟨q1, q2⟩
      · rw [q1]; exact hY ⟨j, by omega, q3⟩
      · rw [q1]; exact hN (fun j hj => q2 j (by omega))
    · exfalso; omega
  | succ d ih =>
    intro i b hi2 hb
    have hbb := hi i (by omega)
    obtain ⟨b1, b2⟩ := hbb
    have hb2 : b = 0 ∨ b = 1 := by rcases hb with q | q; exact Or.inr q.1; exact Or.inl q.1
    refine s112_4 rfl ?_
    refine s112_5 rfl ?_
    refine s112_6 (by first | assumption | rfl) (by first | assumption | (exact hpo _) | rfl | decide) (by first | assumption | decide | omega) ?_
    refine s112_9 ⟨by omega, by omega⟩ ⟨by omega, by omega⟩ (fun h9 => ?_) (fun h9 => ?_)
    · exfalso; omega
    · refine s112_12 rfl ?_
      refine s112_13 ⟨by omega, by omega⟩ (fun h13 => ?_) (fun h13 => ?_)
      · refine s112_26 ?_
        refine s112_27 ?_
        refine s112_31 ?_
        refine s112_32 rfl ?_
        refine s112_35 ?_
        first
          | (refine ih (i + 1) 1 (by omega) (Or.inl ⟨rfl, ?_⟩)
             rcases hb with ⟨q1, j, q2, q3⟩ | ⟨q1, q2⟩
             · exact ⟨j, by omega, q3⟩
             · exact ⟨i, by omega, by omega⟩)
          | (refine ih (i + 1) 0 (by omega) (Or.inr ⟨rfl, ?_⟩)
             rcases hb with ⟨q1, j, q2, q3⟩ | ⟨q1, q2⟩
             · omega
             · intro j hj
               by_cases c : j = i
               · rw [c]; omega
               · exact q2 j (by omega))
      · refine s112_16 rfl ?_
        refine s112_17 (by first | assumption | rfl) (by first | assumption | (exact hpo _) | rfl | decide) ?_
        refine s112_20 rfl ?_
        refine v_iald d112_21 (by first | assumption | rfl) (by omega) (by omega) (by omega) (by first | assumption | (exact hpo _) | rfl | decide) (by first | assumption | decide | omega) ?_
        rw [Int.toNat_natCast]
        refine s112_22 rfl ?_
        refine s112_23 ⟨by omega, by omega⟩ ⟨by omega, by omega⟩ (fun h23 => ?_) (fun h23 => ?_)
        · refine s112_30 ?_
          refine s112_31 ?_
          refine s112_32 rfl ?_
          refine s112_35 ?_
          first
            | (refine ih (i + 1) 1 (by omega) (Or.inl ⟨rfl, ?_⟩)
               rcases hb with ⟨q1, j, q2, q3⟩ | ⟨q1, q2⟩
               · exact ⟨j, by omega, q3⟩
               · exact ⟨i, by omega, by omega⟩)
            | (refine ih (i + 1) 0 (by omega) (Or.inr ⟨rfl, ?_⟩)
               rcases hb with ⟨q1, j, q2, q3⟩ | ⟨q1, q2⟩
               · omega
               · intro j hj
                 by_cases c : j = i
                 · rw [c]; omega
                 · exact q2 j (by omega))
        · refine s112_26 ?_
          refine s112_27 ?_
          refine s112_31 ?_
          refine s112_32 rfl ?_
          refine s112_35 ?_
          first
            | (refine ih (i + 1) 1 (by omega) (Or.inl ⟨rfl, ?_⟩)
               rcases hb with ⟨q1, j, q2, q3⟩ | ⟨q1, q2⟩
               · exact ⟨j, by omega, q3⟩
               · exact ⟨i, by omega, by omega⟩)
            | (refine ih (i + 1) 0 (by omega) (Or.inr ⟨rfl, ?_⟩)
               rcases hb with ⟨q1, j, q2, q3⟩ | ⟨q1, q2⟩
               · omega
               · intro j hj
                 by_cases c : j = i
                 · rw [c]; omega
                 · exact q2 j (by omega))
theorem c112 {v : Int} (hC : rC g y) (hO : yO y) (hv : ib v) (h : Q (.inl (some (.int (I (if v ∈ y.2.2.2.2 then 1 else 0))))) (x_vm g) n) : x_V S 112 0 [some (.ref 100), some (.int (I v)), none, none] [] (x_vm g) n Q := by
  refine s112_0 ?_
  refine s112_1 ?_
  refine s112_2 ?_
  refine s112_3 ?_
  refine l112 (c := y.2.2.2.2.length) hv hC.2.2.2.2.1 hC.2.2.2.2.2.1 (fun i hi => ?_) (fun hx => ?_) (fun h1 => ?_) _ 0 0 (Nat.zero_add _) (Or.inr ⟨rfl, fun j hj => absurd hj (Nat.not_lt_zero _)⟩)
  · rw [hC.2.2.2.2.2.2 i hi]
    have := hO.2.2 _ (ymem.2 ⟨i, hi, rfl⟩)
    exact ⟨by omega, by omega⟩
  · obtain ⟨i, h1, h2⟩ := hx
    rw [if_pos (ymem.2 ⟨i, h1, by rw [← hC.2.2.2.2.2.2 i h1]; exact h2⟩)] at h
    exact h
  · rw [if_neg (fun z => by obtain ⟨i, z1, z2⟩ := ymem.1 z; exact h1 i z1 (by rw [hC.2.2.2.2.2.2 i z1]; exact z2))] at h
    exact h
theorem c113 {k : Nat} (hC : rC g y) (hO : yO y) (hk : k < y.2.2.2.1.length) (h : Q (.inl (some (.int (I (yst (y.2.2.2.1.getD k yE)))))) (x_vm g) n) : x_V S 113 0 [some (.ref 100), some (.int (I k))] [] (x_vm g) n Q := by
  have h40 := hC.2.2.2.1.2.1
  obtain ⟨a0, a1, a2, a3, a4⟩ := hC.2.2.2.1.at hk
  have hb := hO.1 k hk
  unfold yst x_os at h
  generalize y.2.2.2.1.getD k yE = r at a0 a1 a2 a3 a4 hb h
  refine s113_0 rfl ?_
  refine s113_1 (by first | assumption | rfl) (by first | assumption | (exact hpo _) | rfl | decide) ?_
  refine s113_4 rfl ?_
  refine v_zald d113_5 (by first | assumption | rfl) (by omega) (by omega) (by omega) (by first | assumption | (exact hpo _) | rfl | decide) (by first | assumption | decide | omega) ?_
  rw [Int.toNat_natCast]
  refine s113_6 ⟨by omega, by omega⟩ (fun h6 => ?_) (fun h6 => ?_)
  · refine s113_13 rfl ?_
    refine s113_14 (by first | assumption | rfl) (by first | assumption | (exact hpo _) | rfl | decide) ?_
    refine s113_17 rfl ?_
    refine v_iald d113_18 (by first | assumption | rfl) (by omega) (by omega) (by omega) (by first | assumption | (exact hpo _) | rfl | decide) (by first | assumption | decide | omega) ?_
    rw [Int.toNat_natCast]
    refine s113_19 rfl ?_
    refine s113_20 (by first | assumption | rfl) (by first | assumption | (exact hpo _) | rfl | decide) ?_
    refine s113_23 rfl ?_
    refine v_iald d113_24 (by first | assumption | rfl) (by omega) (by omega) (by omega) (by first | assumption | (exact hpo _) | rfl | decide) (by first | assumption | decide | omega) ?_
    rw [Int.toNat_natCast]
    refine s113_25 ⟨by omega, by omega⟩ ⟨by omega, by omega⟩ (fun h25 => ?_) (fun h25 => ?_)
    · refine s113_32 rfl ?_
      refine s113_33 (by first | assumption | rfl) (by first | assumption | (exact hpo _) | rfl | decide) ?_
      refine s113_36 rfl ?_
      refine v_iald d113_37 (by first | assumption | rfl) (by omega) (by omega) (by omega) (by first | assumption | (exact hpo _) | rfl | decide) (by first | assumption | decide | omega) ?_
      rw [Int.toNat_natCast]
      refine s113_38 ⟨by omega, by omega⟩ (fun h38 => ?_) (fun h38 => ?_)
      · refine s113_45 ?_
        refine s113_46 (st := []) ?_
        first
          | (rw [if_pos (show r.2.2.2.2 ≠ 0 by omega)] at h; exact h)
          | (rw [if_neg (show ¬ r.2.2.2.2 ≠ 0 by omega), if_pos (show r.2.2.2.1 = r.2.2.1 by omega)] at h; exact h)
          | (rw [if_neg (show ¬ r.2.2.2.2 ≠ 0 by omega), if_neg (show ¬ r.2.2.2.1 = r.2.2.1 by omega), if_pos (show 0 < r.2.2.2.1 by omega)] at h; exact h)
          | (rw [if_neg (show ¬ r.2.2.2.2 ≠ 0 by omega), if_neg (show ¬ r.2.2.2.1 = r.2.2.1 by omega), if_neg (show ¬ 0 < r.2.2.2.1 by omega)] at h; exact h)
      · refine s113_41 ?_
        refine s113_42 ?_
        refine s113_46 (st := []) ?_
        first
          | (rw [if_pos (show r.2.2.2.2 ≠ 0 by omega)] at h; exact h)
          | (rw [if_neg (show ¬ r.2.2.2.2 ≠ 0 by omega), if_pos (show r.2.2.2.1 = r.2.2.1 by omega)] at h; exact h)
          | (rw [if_neg (show ¬ r.2.2.2.2 ≠ 0 by omega), if_neg (show ¬ r.2.2.2.1 = r.2.2.1 by omega), if_pos (show 0 < r.2.2.2.1 by omega)] at h; exact h)
          | (rw [if_neg (show ¬ r.2.2.2.2 ≠ 0 by omega), if_neg (show ¬ r.2.2.2.1 = r.2.2.1 by omega), if_neg (show ¬ 0 < r.2.2.2.1 by omega)] at h; exact h)
    · refine s113_28 ?_
      refine s113_29 ?_
      refine s113_46 (st := []) ?_
      first
        | (rw [if_pos (show r.2.2.2.2 ≠ 0 by omega)] at h; exact h)
        | (rw [if_neg (show ¬ r.2.2.2.2 ≠ 0 by omega), if_pos (show r.2.2.2.1 = r.2.2.1 by omega)] at h; exact h)
        | (rw [if_neg (show ¬ r.2.2.2.2 ≠ 0 by omega), if_neg (show ¬ r.2.2.2.1 = r.2.2.1 by omega), if_pos (show 0 < r.2.2.2.1 by omega)] at h; exact h)
        | (rw [if_neg (show ¬ r.2.2.2.2 ≠ 0 by omega), if_neg (show ¬ r.2.2.2.1 = r.2.2.1 by omega), if_neg (show ¬ 0 < r.2.2.2.1 by omega)] at h; exact h)
  · refine s113_9 ?_
    refine s113_10 ?_
    refine s113_46 (st := []) ?_
    first
      | (rw [if_pos (show r.2.2.2.2 ≠ 0 by omega)] at h; exact h)
      | (rw [if_neg (show ¬ r.2.2.2.2 ≠ 0 by omega), if_pos (show r.2.2.2.1 = r.2.2.1 by omega)] at h; exact h)
      | (rw [if_neg (show ¬ r.2.2.2.2 ≠ 0 by omega), if_neg (show ¬ r.2.2.2.1 = r.2.2.1 by omega), if_pos (show 0 < r.2.2.2.1 by omega)] at h; exact h)
      | (rw [if_neg (show ¬ r.2.2.2.2 ≠ 0 by omega), if_neg (show ¬ r.2.2.2.1 = r.2.2.1 by omega), if_neg (show ¬ 0 < r.2.2.2.1 by omega)] at h; exact h)
theorem yst_b (r : yR) : 0 ≤ yst r ∧ yst r ≤ 4 := by
  unfold yst x_os
  split
  · omega
  · split
    · omega
    · split <;> omega
theorem yst_op {r : yR} (h : r.2.2.2.1 ≤ r.2.2.1) : yst r < 2 ↔ (r.2.2.2.2 = 0 ∧ r.2.2.2.1 < r.2.2.1) := by
  unfold yst x_os
  split
  · omega
  · split
    · omega
    · split <;> omega
theorem l114 {v : Int} (hC : rC g y) (hO : yO y) (hv : ib v) (h : Q (.inl (some (.int (I (if yopen y.2.2.2.1 v < y.2.2.2.1.length then (yopen y.2.2.2.1 v : Int) else -1))))) (x_vm g) n) :
    ∀ (d i : Nat) (f : Int), i + d = y.2.2.2.1.length → ((f = -1 ∧ ∀ j, j < i → yop v (y.2.2.2.1.getD j yE) = false) ∨ (∃ j : Nat, f = j ∧ j < i ∧ yop v (y.2.2.2.1.getD j yE) = true)) → x_V S 114 4 [some (.ref 100), some (.int (I v)), some (.int (I f)), some (.int (I i))] [] (x_vm g) n Q := by
  have h40 := hC.2.2.2.1.2.1
  have hc := hC.2.2.2.1.1
  obtain ⟨d1, d2⟩ := hv
  intro d
  induction d with
  | zero =>
    intro i f hi hf
    refine s114_4 rfl ?_
    refine s114_5 rfl ?_
    refine s114_6 (by first | assumption | rfl) (by first | assumption | (exact hpo _) | rfl | decide) (by first | assumption | decide | omega) ?_
    refine s114_9 ⟨by omega, by omega⟩ ⟨by omega, by omega⟩ (fun h9 => ?_) (fun h9 => ?_)
    · refine s114_43 rfl ?_
      refine s114_44 (st := []) ?_
      rcases hf with ⟨q1, q2⟩ | ⟨j, q1, q2, q3⟩
      · have e : yopen y.2.2.2.1 v = y.2.2.2.1.length := yfx_no (d := yE) (fun j hj => q2 j (by omega))
        rw [if_neg (by omega)] at h
        rw [q1]; exact h
      · have e : yopen y.2.2.2.1 v = j := yfx_eq (d := yE) (by omega) q3 (fun i2 hi2 => by
          by_cases c : yop v (y.2.2.2.1.getD i2 yE) = true
          · exfalso
            have z1 := (of_decide_eq_true c).1
            have z2 := (of_decide_eq_true q3).1
            have := hO.2.1 i2 j (by omega) (by omega) (by omega)
            omega
          · exact Bool.not_eq_true _ ▸ (Bool.eq_false_iff.2 c))
        rw [if_pos (by omega), e] at h
        rw [q1]; exact h
    · exfalso; omega
  | succ d ih =>
    intro i f hi hf
    obtain ⟨a0, a1, a2, a3, a4⟩ := hC.2.2.2.1.at (i := i) (by omega)
    have hb := hO.1 i (by omega)
    have hst := yst_b (y.2.2.2.1.getD i yE)
    have hop := yst_op (r := y.2.2.2.1.getD i yE) (by omega)
    have no : ¬ ((y.2.2.2.1.getD i yE).1 = v ∧ yst (y.2.2.2.1.getD i yE) < 2) → yop v (y.2.2.2.1.getD i yE) = false := fun z => decide_eq_false (fun w => z ⟨w.1, hop.2 w.2⟩)
    have keep : yop v (y.2.2.2.1.getD i yE) = false → x_V S 114 36 [some (.ref 100), some (.int (I v)), some (.int (I f)), some (.int (I i))] [.int (I f)] (x_vm g) n Q := by
      intro z
      refine s114_36 ?_
      refine s114_37 rfl ?_
      refine s114_40 ?_
      refine ih (i + 1) f (by omega) ?_
      rcases hf with ⟨q1, q2⟩ | ⟨j, q1, q2, q3⟩
      · refine Or.inl ⟨q1, fun j hj => ?_⟩
        by_cases c : j = i
        · rw [c]; exact z
        · exact q2 j (by omega)
      · exact Or.inr ⟨j, q1, by omega, q3⟩
    refine s114_4 rfl ?_
    refine s114_5 rfl ?_
    refine s114_6 (by first | assumption | rfl) (by first | assumption | (exact hpo _) | rfl | decide) (by first | assumption | decide | omega) ?_
    refine s114_9 ⟨by omega, by omega⟩ ⟨by omega, by omega⟩ (fun h9 => ?_) (fun h9 => ?_)
    · exfalso; omega
    · refine s114_12 rfl ?_
      refine s114_13 (by first | assumption | rfl) (by first | assumption | (exact hpo _) | rfl | decide) ?_
      refine s114_16 rfl ?_
      refine v_iald d114_17 (by first | assumption | rfl) (by omega) (by omega) (by omega) (by first | assumption | (exact hpo _) | rfl | decide) (by first | assumption | decide | omega) ?_
      rw [Int.toNat_natCast, a0]
      refine s114_18 rfl ?_
      refine s114_19 ⟨by omega, by omega⟩ ⟨by omega, by omega⟩ (fun h19 => ?_) (fun h19 => ?_)
      · refine s114_35 rfl ?_
        first
          | exact keep (no (by omega))
          | (refine s114_36 ?_
             refine s114_37 rfl ?_
             refine s114_40 ?_
             exact ih (i + 1) i (by omega) (Or.inr ⟨i, rfl, by omega, decide_eq_true ⟨by omega, hop.1 (by omega)⟩⟩))
      · refine s114_22 rfl ?_
        refine s114_23 rfl ?_
        refine s114_24 (by first | assumption | rfl) (by simp) ?_
        refine c113 hC hO (by omega) ?_
        refine ⟨_, rfl, ?_⟩
        refine s114_27 ?_
        refine s114_28 ⟨by omega, by omega⟩ ⟨by omega, by omega⟩ (fun h28 => ?_) (fun h28 => ?_)
        · refine s114_35 rfl ?_
          first
            | exact keep (no (by omega))
            | (refine s114_36 ?_
               refine s114_37 rfl ?_
               refine s114_40 ?_
               exact ih (i + 1) i (by omega) (Or.inr ⟨i, rfl, by omega, decide_eq_true ⟨by omega, hop.1 (by omega)⟩⟩))
        · refine s114_31 rfl ?_
          refine s114_32 ?_
          first
            | exact keep (no (by omega))
            | (refine s114_36 ?_
               refine s114_37 rfl ?_
               refine s114_40 ?_
               exact ih (i + 1) i (by omega) (Or.inr ⟨i, rfl, by omega, decide_eq_true ⟨by omega, hop.1 (by omega)⟩⟩))
theorem c114 {v : Int} (hC : rC g y) (hO : yO y) (hv : ib v) (h : Q (.inl (some (.int (I (if yopen y.2.2.2.1 v < y.2.2.2.1.length then (yopen y.2.2.2.1 v : Int) else -1))))) (x_vm g) n) : x_V S 114 0 [some (.ref 100), some (.int (I v)), none, none] [] (x_vm g) n Q := by
  refine s114_0 ?_
  refine s114_1 ?_
  refine s114_2 ?_
  refine s114_3 ?_
  exact l114 hC hO hv h _ 0 (-1) (Nat.zero_add _) (Or.inl ⟨rfl, fun j hj => absurd hj (Nat.not_lt_zero _)⟩)
end MO
