/-! 27.resend: Session.answerResend and Session.report over the mathematical value. -/
section CU
variable {S : Nat × (Nat → Int32)} {μ : xM} {g : Nat → Nat → Int} {n a v : Nat} {Q : xQ} {y : yS} {B : Int}
def yans (last : Int) : List yR → yS → Int → yS
  | [], y, u => ygap y u (last + 1)
  | r :: l, y, u => if u ≤ r.1 ∧ r.1 ≤ last then yans last l (ypost (ygap y u r.1) (56, r.1, 1, r.2.1, r.2.2.1, r.2.2.2.1, r.2.2.2.2)) (r.1 + 1) else yans last l y u
theorem ydrop {α : Type} {l : List α} {k : Nat} (d : α) (h : k < l.length) : l.drop k = l.getD k d :: l.drop (k + 1) := by
  rw [List.drop_eq_getElem_cons h]
  simp [List.getD, h]
theorem ygap_2 {f b : Int} : (ygap y f b).2.2 = y.2.2 := by
  unfold ygap
  split <;> rfl
theorem yB.gap {f b : Int} (hB : yB B y) (h : B + 1 ≤ 100000000) : yB (B + 1) (ygap y f b) := by
  unfold ygap
  split
  · exact hB.post h
  · exact hB.up (by omega) h
theorem l66 {f t last : Int} {l : List yR} {c : Nat} (hc : l.length = c) (hc2 : c ≤ 512) (hl : ∀ k, k < c → 0 ≤ (l.getD k yE).1 ∧ (l.getD k yE).1 ≤ 100000000) (h1 : -1 ≤ last) (h2 : last ≤ 100000000) :
    ∀ (d k : Nat) (y : yS) (g : Nat → Nat → Int) (u : Int) (w : Option Value) (B : Int), k + d = c → yC g y → y.2.2.1 = l → yB B y → B + 2 * d ≤ 100000000 → 0 ≤ u → u ≤ 100000001 → (∀ g', yC g' (yans last (l.drop k) y u) → yF g g' → Q (.inl none) (x_vm g') n) → x_V S 66 33 [some (.ref 8), some (.int (I f)), some (.int (I t)), some (.int (I last)), some (.int (I u)), some (.int (I k)), w] [] (x_vm g) n Q := by
  intro d
  induction d with
  | zero =>
    intro k y g u w B hk hC hY hB hB2 u1 u2 h
    have e98 := hC.2.2.1.1
    rw [hY, hc] at e98
    rw [List.drop_eq_nil_of_le (by omega)] at h
    refine s66_33 rfl ?_
    refine s66_35 rfl ?_
    refine s66_36 (by first | assumption | rfl) (by first | assumption | (exact hpo _) | rfl | decide) ?_
    refine s66_39 (by first | assumption | rfl) (by first | assumption | (exact hpo _) | rfl | decide) (by first | assumption | decide | omega) ?_
    refine s66_42 ⟨by omega, by omega⟩ ⟨by omega, by omega⟩ (fun h42 => ?_) (fun h42 => ?_)
    · refine s66_107 rfl ?_
      refine s66_108 rfl ?_
      refine s66_110 rfl ?_
      refine s66_111 ?_
      refine s66_112 ?_
      refine s66_113 (by first | assumption | rfl) (by simp) ?_
      refine c67 hC hB ⟨by omega, by omega⟩ ⟨by omega, by omega⟩ (fun g1 hC1 hF1 => ?_)
      refine ⟨_, rfl, ?_⟩
      refine s66_116 (st := []) ?_
      exact h _ hC1 hF1
    · exfalso; omega
  | succ d ih =>
    intro k y g u w B hk hC hY hB hB2 u1 u2 h
    have e98 := hC.2.2.1.1
    rw [hY, hc] at e98
    have hr := hC.2.2.1.2.2 k (by rw [hY]; omega)
    rw [hY] at hr
    have hn := hl k (by omega)
    rw [ydrop yE (by omega)] at h
    generalize er : l.getD k yE = r at hr hn h
    obtain ⟨r0, r1, r2, r3, r4⟩ := r
    have q0 : g 99 (5 * k) = r0 := congrArg (fun p => p.1) hr
    have hn1 : 0 ≤ r0 := hn.1
    have hn2 : r0 ≤ 100000000 := hn.2
    rw [yans] at h
    refine s66_33 rfl ?_
    refine s66_35 rfl ?_
    refine s66_36 (by first | assumption | rfl) (by first | assumption | (exact hpo _) | rfl | decide) ?_
    refine s66_39 (by first | assumption | rfl) (by first | assumption | (exact hpo _) | rfl | decide) (by first | assumption | decide | omega) ?_
    refine s66_42 ⟨by omega, by omega⟩ ⟨by omega, by omega⟩ (fun h42 => ?_) (fun h42 => ?_)
    · exfalso; omega
    · refine s66_45 rfl ?_
      refine s66_46 (by first | assumption | rfl) (by first | assumption | (exact hpo _) | rfl | decide) ?_
      refine s66_49 rfl ?_
      refine s66_51 (by first | assumption | rfl) (by simp) ?_
      refine c44 (k := k) (by omega) (by omega) ?_
      refine ⟨_, rfl, ?_⟩
      rw [q0]
      refine s66_54 ?_
      refine s66_56 rfl ?_
      refine s66_58 rfl ?_
      refine s66_60 ⟨by omega, by omega⟩ ⟨by omega, by omega⟩ (fun h60 => ?_) (fun h60 => ?_)
      · refine s66_101 rfl ?_
        refine s66_104 ?_
        first
          | exact tail _
          | (rw [if_neg (show ¬ (u ≤ r0 ∧ r0 ≤ last) by omega)] at h; exact ih (k + 1) y g u _ B (by omega) hC hY hB (by omega) u1 u2 h)
      · refine s66_63 rfl ?_
        refine s66_65 rfl ?_
        refine s66_66 ⟨by omega, by omega⟩ ⟨by omega, by omega⟩ (fun h66 => ?_) (fun h66 => ?_)
        · refine s66_101 rfl ?_
          refine s66_104 ?_
          first
            | exact tail _
            | (rw [if_neg (show ¬ (u ≤ r0 ∧ r0 ≤ last) by omega)] at h; exact ih (k + 1) y g u _ B (by omega) hC hY hB (by omega) u1 u2 h)
        · refine s66_69 rfl ?_
          refine s66_70 rfl ?_
          refine s66_72 rfl ?_
          refine s66_74 (by first | assumption | rfl) (by simp) ?_
          refine c67 hC hB ⟨by omega, by omega⟩ ⟨by omega, by omega⟩ (fun g1 hC1 hF1 => ?_)
          refine ⟨_, rfl, ?_⟩
          have hB1 : yB (B + 1) (ygap y u r0) := hB.gap (by omega)
          have e1 : (ygap y u r0).2.2.1 = l := by rw [ygap_2]; exact hY
          have e92 := hC1.2.1.1
          have hb2 := hB1.2.1
          obtain ⟨j, hj2, hj⟩ := yk (g := g1) (by omega)
          have hmj := x_msgk j (by omega)
          have hr1 := hC1.2.2.1.2.2 k (by rw [e1]; omega)
          rw [e1, er] at hr1
          have e981 := hC1.2.2.1.1
          rw [e1, hc] at e981
          refine s66_77 rfl ?_
          refine s66_78 (by first | assumption | rfl) (by first | assumption | (exact hpo _) | rfl | decide) ?_
          refine s66_81 rfl ?_
          refine s66_83 rfl ?_
          refine s66_84 ?_
          refine s66_86 rfl ?_
          refine s66_88 ?_
          refine s66_89 (by first | assumption | rfl) (by simp) ?_
          refine c68 (k := j) ⟨by omega, by omega⟩ (Or.inr rfl) hj ?_
          refine ⟨_, rfl, ?_⟩
          have q5 : ∀ (b i : Nat), 98 ≤ b → x_bg (13 + 2 * j) 56 r0 1 (x_uf (x_uf g1 8 10 (g1 8 7)) 9 2 (x_uf g1 8 10 (g1 8 7) 9 2 + 1)) b i = g1 b i := fun b i hb => by rw [x_bg_ne (by omega), x_uf_ne (by omega), x_uf_ne (by omega)]
          refine s66_92 rfl (by first | assumption | rfl) (by simp) ?_
          refine c45 (k := k) hmj (by rw [q5 _ _ (by omega)]; omega) (by rw [q5 _ _ (by omega)]; omega) ?_
          refine ⟨_, rfl, ?_⟩
          rw [q5 _ _ (by omega), q5 _ _ (by omega), q5 _ _ (by omega), q5 _ _ (by omega)]
          rw [show g1 99 (5 * k + 1) = r1 from congrArg (fun p => p.2.1) hr1, show g1 99 (5 * k + 2) = r2 from congrArg (fun p => p.2.2.1) hr1, show g1 99 (5 * k + 3) = r3 from congrArg (fun p => p.2.2.2.1) hr1, show g1 99 (5 * k + 4) = r4 from congrArg (fun p => p.2.2.2.2) hr1]
          rw [if_pos (show u ≤ r0 ∧ r0 ≤ last by omega)] at h
          have tail := fun (w : Option Value) => ih (k + 1) _ _ (r0 + 1) w (B + 2) (by omega) (hC1.post (t := 56) (m := r0) (d := 1) (p := r1) (q := r2) (u := r3) (w := r4) hj) e1 (by have := hB1.post (m := (56, r0, 1, r1, r2, r3, r4)) (by omega); rw [show B + 1 + 1 = B + 2 by omega] at this; exact this) (by omega) (by omega) (by omega) (fun g' z1 z2 => h g' z1 ((hF1.tr (yF.post hj2)).tr z2))
          refine s66_95 rfl ?_
          refine s66_97 ?_
          refine s66_98 ?_
          refine s66_99 ?_
          refine s66_101 rfl ?_
          refine s66_104 ?_
          first
            | exact tail _
            | (rw [if_neg (show ¬ (u ≤ r0 ∧ r0 ≤ last) by omega)] at h; exact ih (k + 1) y g u _ B (by omega) hC hY hB (by omega) u1 u2 h)
def yresend (y : yS) (f t : Int) : yS := yans (if t = 0 ∨ y.1 4 ≤ t then y.1 4 - 1 else t) y.2.2.1 y (if f < 1 then 1 else f)
/-- the reports' numbers -/
def yN (y : yS) : Prop := ∀ k, k < y.2.2.1.length → 0 ≤ (y.2.2.1.getD k yE).1 ∧ (y.2.2.1.getD k yE).1 ≤ 100000000
theorem c66 {f t : Int} (hC : yC g y) (hB : yB B y) (hB2 : B + 1100 ≤ 100000000) (hN : yN y) (hf : 0 ≤ f ∧ f ≤ 999999) (ht : 0 ≤ t ∧ t ≤ 999999) (h : ∀ g', yC g' (yresend y f t) → yF g g' → Q (.inl none) (x_vm g') n) : x_V S 66 0 [some (.ref 8), some (.int (I f)), some (.int (I t)), none, none, none, none] [] (x_vm g) n Q := by
  have e4 := hC.1 4 (by omega) (by omega)
  have b4 := hB.1 4 (by omega) (by omega)
  have h512 := hC.2.2.1.2.1
  unfold yresend at h
  refine s66_0 rfl ?_
  refine s66_1 ⟨by omega, by omega⟩ (fun h1 => ?_) (fun h1 => ?_)
  · refine s66_12 rfl ?_
    refine s66_13 (by first | assumption | rfl) (by first | assumption | (exact hpo _) | rfl | decide) (by first | assumption | decide | omega) ?_
    refine s66_16 ?_
    refine s66_17 ?_
    refine s66_18 ?_
    refine s66_22 ?_
    refine s66_23 rfl ?_
    refine s66_24 ?_
    refine s66_25 (by simp) ⟨by omega, by omega⟩ ⟨by omega, by omega⟩ ?_
    refine s66_28 ?_
    refine s66_30 ?_
    refine s66_31 ?_
    first
      | rw [if_pos (show t = 0 ∨ y.1 4 ≤ t by omega), ← e4] at h
      | rw [if_neg (show ¬ (t = 0 ∨ y.1 4 ≤ t) by omega)] at h
    refine l66 (l := y.2.2.1) rfl h512 hN (by omega) (by omega) _ 0 y g _ _ B (Nat.zero_add _) hC rfl hB (by omega) (by split <;> omega) (by split <;> omega) h
  · refine s66_4 rfl ?_
    refine s66_5 rfl ?_
    refine s66_6 (by first | assumption | rfl) (by first | assumption | (exact hpo _) | rfl | decide) (by first | assumption | decide | omega) ?_
    refine s66_9 ⟨by omega, by omega⟩ ⟨by omega, by omega⟩ (fun h9 => ?_) (fun h9 => ?_)
    · refine s66_21 rfl ?_
      refine s66_22 ?_
      refine s66_23 rfl ?_
      refine s66_24 ?_
      refine s66_25 (by simp) ⟨by omega, by omega⟩ ⟨by omega, by omega⟩ ?_
      refine s66_28 ?_
      refine s66_30 ?_
      refine s66_31 ?_
      first
        | rw [if_pos (show t = 0 ∨ y.1 4 ≤ t by omega), ← e4] at h
        | rw [if_neg (show ¬ (t = 0 ∨ y.1 4 ≤ t) by omega)] at h
      refine l66 (l := y.2.2.1) rfl h512 hN (by omega) (by omega) _ 0 y g _ _ B (Nat.zero_add _) hC rfl hB (by omega) (by split <;> omega) (by split <;> omega) h
    · refine s66_12 rfl ?_
      refine s66_13 (by first | assumption | rfl) (by first | assumption | (exact hpo _) | rfl | decide) (by first | assumption | decide | omega) ?_
      refine s66_16 ?_
      refine s66_17 ?_
      refine s66_18 ?_
      refine s66_22 ?_
      refine s66_23 rfl ?_
      refine s66_24 ?_
      refine s66_25 (by simp) ⟨by omega, by omega⟩ ⟨by omega, by omega⟩ ?_
      refine s66_28 ?_
      refine s66_30 ?_
      refine s66_31 ?_
      first
        | rw [if_pos (show t = 0 ∨ y.1 4 ≤ t by omega), ← e4] at h
        | rw [if_neg (show ¬ (t = 0 ∨ y.1 4 ≤ t) by omega)] at h
      refine l66 (l := y.2.2.1) rfl h512 hN (by omega) (by omega) _ 0 y g _ _ B (Nat.zero_add _) hC rfl hB (by omega) (by split <;> omega) (by split <;> omega) h
/-- an order's state, what is left of it -/
def yst (r : yR) : Int := x_os r.2.2.1 r.2.2.2.1 r.2.2.2.2
def ylf (r : yR) : Int := if r.2.2.2.2 = 0 then r.2.2.1 - r.2.2.2.1 else 0
def ykeep (y : yS) (r : yR) : yS := (y.1, y.2.1, y.2.2.1 ++ [r], y.2.2.2)
def yrep (y : yS) (i s f l : Int) : yS := yset (if y.1 6 = 0 then ykeep y (y.1 4, i, s, f, l) else ypost (ykeep y (y.1 4, i, s, f, l)) (56, y.1 4, 0, i, s, f, l)) 4 (y.1 4 + 1)
theorem yC.keep {k : Nat} {m i t f l : Int} (h : yC g y) (hk : y.2.2.1.length = k) (hk2 : k < 512) : yC (x_keep k m i t f l g) (ykeep y (m, i, t, f, l)) := by
  obtain ⟨h1, h2, h3, h4, h5⟩ := h
  have e : ∀ b j, b ≠ 98 → b ≠ 99 → x_keep k m i t f l g b j = g b j := fun b j q1 q2 => by
    unfold x_keep
    rw [x_uf_ne (by omega), x_uf_ne (by omega), x_uf_ne (by omega), x_uf_ne (by omega), x_uf_ne (by omega), x_uf_ne (by omega)]
  refine ⟨fun j q1 q2 => by rw [e _ _ (by omega) (by omega)]; exact h1 j q1 q2, h2.eq (fun a i _ _ _ _ => e _ _ (by omega) (by omega)), ⟨?_, ?_, fun j hj => ?_⟩, h4.eq (e _ _ (by omega) (by omega)) (fun a i _ _ => e _ _ (by omega) (by omega)), h5.eq (e _ _ (by omega) (by omega)) (fun i => e _ _ (by omega) (by omega))⟩
  · show x_keep k m i t f l g 98 1 = ((y.2.2.1 ++ [(m, i, t, f, l)]).length : Int)
    unfold x_keep
    rw [x_uf_eq, List.length_append, hk]
    rfl
  · show (y.2.2.1 ++ [(m, i, t, f, l)]).length ≤ 512
    rw [List.length_append, hk]
    exact hk2
  · have hj2 : j < (y.2.2.1 ++ [(m, i, t, f, l)]).length := hj
    rw [List.length_append, hk] at hj2
    have hj3 : j < k + 1 := hj2
    show _ = (y.2.2.1 ++ [(m, i, t, f, l)]).getD j yE
    by_cases q : j = k
    · rw [q]
      unfold x_keep
      have z0 : x_uf (x_uf (x_uf (x_uf (x_uf (x_uf g 99 (5 * k) m) 99 (5 * k + 1) i) 99 (5 * k + 2) t) 99 (5 * k + 3) f) 99 (5 * k + 4) l) 98 1 (k + 1) 99 (5 * k) = m := by
        rw [x_uf_ne (by omega), x_uf_ne (by omega), x_uf_ne (by omega), x_uf_ne (by omega), x_uf_ne (by omega), x_uf_eq]
      have z1 : x_uf (x_uf (x_uf (x_uf (x_uf (x_uf g 99 (5 * k) m) 99 (5 * k + 1) i) 99 (5 * k + 2) t) 99 (5 * k + 3) f) 99 (5 * k + 4) l) 98 1 (k + 1) 99 (5 * k + 1) = i := by
        rw [x_uf_ne (by omega), x_uf_ne (by omega), x_uf_ne (by omega), x_uf_ne (by omega), x_uf_eq]
      have z2 : x_uf (x_uf (x_uf (x_uf (x_uf (x_uf g 99 (5 * k) m) 99 (5 * k + 1) i) 99 (5 * k + 2) t) 99 (5 * k + 3) f) 99 (5 * k + 4) l) 98 1 (k + 1) 99 (5 * k + 2) = t := by
        rw [x_uf_ne (by omega), x_uf_ne (by omega), x_uf_ne (by omega), x_uf_eq]
      have z3 : x_uf (x_uf (x_uf (x_uf (x_uf (x_uf g 99 (5 * k) m) 99 (5 * k + 1) i) 99 (5 * k + 2) t) 99 (5 * k + 3) f) 99 (5 * k + 4) l) 98 1 (k + 1) 99 (5 * k + 3) = f := by
        rw [x_uf_ne (by omega), x_uf_ne (by omega), x_uf_eq]
      have z4 : x_uf (x_uf (x_uf (x_uf (x_uf (x_uf g 99 (5 * k) m) 99 (5 * k + 1) i) 99 (5 * k + 2) t) 99 (5 * k + 3) f) 99 (5 * k + 4) l) 98 1 (k + 1) 99 (5 * k + 4) = l := by
        rw [x_uf_ne (by omega), x_uf_eq]
      rw [z0, z1, z2, z3, z4]
      simp [List.getD, ← hk]
    · have hjl : j < y.2.2.1.length := by omega
      have e9 : ∀ i', i' < 5 * k → x_keep k m i t f l g 99 i' = g 99 i' := fun i' q1 => by
        unfold x_keep
        rw [x_uf_ne (by omega), x_uf_ne (by omega), x_uf_ne (by omega), x_uf_ne (by omega), x_uf_ne (by omega), x_uf_ne (by omega)]
      rw [e9 _ (by omega), e9 _ (by omega), e9 _ (by omega), e9 _ (by omega), e9 _ (by omega), h3.2.2 j hjl]
      simp only [List.getD_eq_getElem?_getD]
      rw [List.getElem?_append_left hjl]
theorem yF.keep {k : Nat} {m i t f l : Int} : yF g (x_keep k m i t f l g) := fun b j h => by
  unfold x_keep
  rw [x_uf_ne (by omega), x_uf_ne (by omega), x_uf_ne (by omega), x_uf_ne (by omega), x_uf_ne (by omega), x_uf_ne (by omega)]
/-- Session.report from its numbers on -/
theorem l58 {i s f l : Int} {w : Option Value} (hC : yC g y) (hB : yB B y) (hl : y.2.2.1.length < 512) (h : ∀ g', yC g' (yrep y i s f l) → yF g g' → Q (.inl none) (x_vm g') n) : x_V S 58 45 [some (.ref 8), some (.int (I i)), w, some (.int (I s)), some (.int (I f)), some (.int (I l))] [] (x_vm g) n Q := by
  have e4 := hC.1 4 (by omega) (by omega)
  have b4 := hB.1 4 (by omega) (by omega)
  have e6 := hC.1 6 (by omega) (by omega)
  have b6 := hB.1 6 (by omega) (by omega)
  have e98 := hC.2.2.1.1
  unfold yrep at h
  have hC1 := hC.keep (m := y.1 4) (i := i) (t := s) (f := f) (l := l) rfl hl
  generalize eg : x_keep (y.2.2.1.length) (y.1 4) i s f l g = g1 at hC1
  have hF1 : yF g g1 := by rw [← eg]; exact yF.keep
  have e41 : g1 8 4 = y.1 4 := hC1.1 4 (by omega) (by omega)
  have e61 : g1 8 6 = y.1 6 := hC1.1 6 (by omega) (by omega)
  have e92 := hC1.2.1.1
  have hb2 : ((ykeep y (y.1 4, i, s, f, l)).2.1.length : Int) ≤ B := hB.2.1
  have hb3 := hB.2.2
  obtain ⟨k, hk2, hk⟩ := yk (g := g1) (by omega)
  have hmk := x_msgk k (by omega)
  have hm1 := hmk.1
  refine s58_45 rfl ?_
  refine s58_46 (by first | assumption | rfl) (by first | assumption | (exact hpo _) | rfl | decide) ?_
  refine s58_49 rfl ?_
  refine s58_50 (by first | assumption | rfl) (by first | assumption | (exact hpo _) | rfl | decide) (by first | assumption | decide | omega) ?_
  rw [e4]
  refine s58_53 rfl ?_
  refine s58_54 rfl ?_
  refine s58_55 rfl ?_
  refine s58_57 rfl ?_
  refine s58_59 (by first | assumption | rfl) (by simp) ?_
  refine c43 (k := y.2.2.1.length) e98 hl ?_
  refine ⟨_, rfl, ?_⟩
  rw [eg]
  refine s58_62 rfl ?_
  refine s58_63 (by first | assumption | rfl) (by first | assumption | (exact hpo _) | rfl | decide) (by first | assumption | decide | omega) ?_
  refine s58_66 ⟨by omega, by omega⟩ (fun h66 => ?_) (fun h66 => ?_)
  · refine s58_89 rfl ?_
    refine s58_90 rfl ?_
    refine s58_91 (by first | assumption | rfl) (by first | assumption | (exact hpo _) | rfl | decide) (by first | assumption | decide | omega) ?_
    first
      | rw [e41]
      | rw [e43]
    refine s58_94 ?_
    refine s58_95 ?_
    refine s58_96 (by first | assumption | rfl) (by first | assumption | (exact hpo _) | rfl | decide) (by first | assumption | decide | omega) ?_
    refine s58_99 (st := []) ?_
    first
      | (rw [if_pos (show y.1 6 = 0 by omega)] at h; exact h _ hC1.set (hF1.tr yF.u8))
      | (rw [if_neg (show ¬ y.1 6 = 0 by omega)] at h; exact h _ hC2.set ((hF1.tr hF2).tr yF.u8))
  · refine s58_69 rfl ?_
    refine s58_70 ?_
    refine s58_72 rfl ?_
    refine s58_73 (by first | assumption | rfl) (by first | assumption | (exact hpo _) | rfl | decide) (by first | assumption | decide | omega) ?_
    rw [e41]
    refine s58_76 ?_
    refine s58_77 (by first | assumption | rfl) (by simp) ?_
    refine c68 (k := k) ⟨by omega, by omega⟩ (Or.inl rfl) hk ?_
    refine ⟨_, rfl, ?_⟩
    refine s58_80 rfl ?_
    refine s58_81 rfl ?_
    refine s58_82 rfl ?_
    refine s58_84 rfl ?_
    refine s58_86 (by first | assumption | rfl) (by simp) ?_
    refine c23 hmk ?_
    refine ⟨_, rfl, ?_⟩
    have hC2 := hC1.post (t := 56) (m := y.1 4) (d := 0) (p := i) (q := s) (u := f) (w := l) hk
    have hF2 := yF.post (g := g1) (t := 56) (m := y.1 4) (d := 0) (p := i) (q := s) (u := f) (w := l) hk2
    generalize eg2 : x_say (14 + 2 * k) i s f l (x_bg (13 + 2 * k) 56 (y.1 4) 0 (x_uf (x_uf g1 8 10 (g1 8 7)) 9 2 (x_uf g1 8 10 (g1 8 7) 9 2 + 1))) = g2 at hC2 hF2
    have e43 : g2 8 4 = y.1 4 := hC2.1 4 (by omega) (by omega)
    refine s58_89 rfl ?_
    refine s58_90 rfl ?_
    refine s58_91 (by first | assumption | rfl) (by first | assumption | (exact hpo _) | rfl | decide) (by first | assumption | decide | omega) ?_
    first
      | rw [e41]
      | rw [e43]
    refine s58_94 ?_
    refine s58_95 ?_
    refine s58_96 (by first | assumption | rfl) (by first | assumption | (exact hpo _) | rfl | decide) (by first | assumption | decide | omega) ?_
    refine s58_99 (st := []) ?_
    first
      | (rw [if_pos (show y.1 6 = 0 by omega)] at h; exact h _ hC1.set (hF1.tr yF.u8))
      | (rw [if_neg (show ¬ y.1 6 = 0 by omega)] at h; exact h _ hC2.set ((hF1.tr hF2).tr yF.u8))
/-- a refusal's report -/
theorem c58N {i : Int} (hC : yC g y) (hB : yB B y) (hl : y.2.2.1.length < 512) (h : ∀ g', yC g' (yrep y i 56 0 0) → yF g g' → Q (.inl none) (x_vm g') n) : x_V S 58 0 [some (.ref 8), some (.int (I i)), some .null, none, none, none] [] (x_vm g) n Q := by
  refine s58_0N rfl ?_
  refine s58_1N ?_
  refine s58_4 ?_
  refine s58_6 ?_
  refine s58_16 ?_
  refine s58_17N rfl ?_
  refine s58_18N ?_
  refine s58_21 ?_
  refine s58_22 ?_
  refine s58_29 ?_
  refine s58_31N rfl ?_
  refine s58_32N ?_
  refine s58_35 ?_
  refine s58_36 ?_
  refine s58_43 ?_
  exact l58 hC hB hl h
/-- an order's report -/
theorem c58 {i : Int} {k : Nat} {r : yR} (hC : yC g y) (hB : yB B y) (hl : y.2.2.1.length < 512) (hk : k < y.2.2.2.1.length) (hr : y.2.2.2.1.getD k yE = r) (hb : (0 ≤ r.2.2.1 ∧ r.2.2.1 ≤ 999999) ∧ (0 ≤ r.2.2.2.1 ∧ r.2.2.2.1 ≤ 999999) ∧ (r.2.2.2.2 = 0 ∨ r.2.2.2.2 = 1)) (h : ∀ g', yC g' (yrep y i (48 + yst r) r.2.2.2.1 (ylf r)) → yF g g' → Q (.inl none) (x_vm g') n) : x_V S 58 0 [some (.ref 8), some (.int (I i)), some (.ref (58 + k)), none, none, none] [] (x_vm g) n Q := by
  have hk2 := hC.2.2.2.1.2.1
  have ho := x_ordi (i := k) (by omega)
  have ho1 := ho.1
  have hpo := ho.2.1
  have ho2 := ho.2.2
  have hq := hC.2.2.2.1.2.2.1 k hk
  rw [hr] at hq
  obtain ⟨r0, r1, r2, r3, r4⟩ := r
  have q2 : g (58 + k) 2 = r2 := congrArg (fun p => p.2.2.1) hq
  have q3 : g (58 + k) 3 = r3 := congrArg (fun p => p.2.2.2.1) hq
  have q4 : g (58 + k) 4 = r4 := congrArg (fun p => p.2.2.2.2) hq
  obtain ⟨⟨a1, a2⟩, ⟨a3, a4⟩, a5⟩ := hb
  simp only at a1 a2 a3 a4 a5 h
  unfold yst ylf at h
  simp only at h
  refine s58_0 rfl ?_
  refine s58_1 ?_
  refine s58_9 ?_
  refine s58_11 rfl ?_
  refine s58_12 (by first | assumption | rfl) (by simp) ?_
  refine c20 ho ⟨by omega, by omega⟩ ⟨by omega, by omega⟩ ⟨by omega, by omega⟩ ?_
  refine ⟨_, rfl, ?_⟩
  rw [q2, q3, q4]
  refine s58_15 ?_
  refine s58_16 ?_
  refine s58_17 rfl ?_
  refine s58_18 ?_
  refine s58_25 rfl ?_
  refine s58_26 (by first | assumption | rfl) (by first | assumption | (exact hpo _) | rfl | decide) (by first | assumption | decide | omega) ?_
  rw [q3]
  refine s58_29 ?_
  refine s58_31 rfl ?_
  refine s58_32 ?_
  refine s58_39 rfl ?_
  refine s58_40 (by first | assumption | rfl) (by simp) ?_
  refine c19 ho ⟨by omega, by omega⟩ ?_
  refine ⟨_, rfl, ?_⟩
  rw [q2, q3, q4]
  refine s58_43 ?_
  exact l58 hC hB hl h
end CU
