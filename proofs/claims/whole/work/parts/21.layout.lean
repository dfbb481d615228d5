/-! 21.layout: contracts of Layout, Order, and of the rows that are written field by field. -/
section CL
variable {S : Nat × (Nat → Int32)} {μ : xM} {g : Nat → Nat → Int} {n r o : Nat} {Q : xQ}
theorem v_tlen {k pc : Nat} {L : List (Option Value)} {st : List Value} (hd : decode (mC k) pc = .ok (.arraylength, 1)) (h : x_V S k (pc + 1) L (.int (I 60) :: st) μ n Q) : x_V S k pc L (.ref 0 :: st) μ n Q :=
  x_tlen hd (by rw [show Int32.ofNat x_rowsN = I 60 from by decide +kernel]; exact h)
theorem v_tald2 {k pc : Nat} {L : List (Option Value)} {st : List Value} {i : Int} (hd : decode (mC k) pc = .ok (.iaload, 1)) (h0 : 0 ≤ i) (h1 : i < 60) (h : x_V S k (pc + 1) L (.int (I (x_rowsL.getD i.toNat 0)) :: st) μ n Q) : x_V S k pc L (.int (I i) :: .ref 0 :: st) μ n Q :=
  v_tald hd h0 (show i < ((60 : Nat) : Int) by omega) (by decide) h
theorem x_rowsL_b (j : Nat) : 0 ≤ x_rowsL.getD j 0 ∧ x_rowsL.getD j 0 ≤ 200 := by
  by_cases h : j < 60
  · revert j
    decide
  · rw [List.getD_eq_getElem?_getD, List.getElem?_eq_none (by show 60 ≤ j; omega)]
    exact ⟨by decide, by decide⟩
/-- the row of a type among the last k rows of the table, or -1 -/
def x_rwf : Nat → Int → Int
  | 0, _ => -1
  | k + 1, t => if x_rowsL.getD (60 - 6 * (k + 1)) 0 = t then 60 - 6 * ((k : Int) + 1) else x_rwf k t
theorem x_rwf_b (k : Nat) (hk : k ≤ 10) (t : Int) : -1 ≤ x_rwf k t ∧ x_rwf k t ≤ 54 := by
  induction k with
  | zero =>
    simp only [x_rwf]
    omega
  | succ k ih =>
    simp only [x_rwf]
    split
    · omega
    · exact ih (by omega)
theorem l4 {t : Int} (ht : ib t) : ∀ k : Nat, k ≤ 10 → (Q (.inl (some (.int (I (x_rwf k t))))) μ n) → x_V S 4 2 [some (.int (I t)), some (.int (I (60 - 6 * (k : Int))))] [] μ n Q := by
  have ht1 := ht.1
  have ht2 := ht.2
  intro k
  induction k with
  | zero =>
    intro _ h
    refine s4_2 rfl ?_
    refine s4_3 ?_
    refine v_tlen d4_6 ?_
    refine s4_7 ⟨by omega, by omega⟩ ⟨by omega, by omega⟩ (fun h7 => ?_) (fun h7 => ?_)
    · refine s4_27 ?_
      refine s4_28 (st := []) ?_
      exact h
    · exfalso; omega
  | succ k ih =>
    intro hk h
    have ei : ((60 : Int) - 6 * ((k + 1 : Nat) : Int)).toNat = 60 - 6 * (k + 1) := by omega
    have hb := x_rowsL_b (60 - 6 * (k + 1))
    simp only [x_rwf] at h
    refine s4_2 rfl ?_
    refine s4_3 ?_
    refine v_tlen d4_6 ?_
    refine s4_7 ⟨by omega, by omega⟩ ⟨by omega, by omega⟩ (fun h7 => ?_) (fun h7 => ?_)
    · exfalso; omega
    · refine s4_10 ?_
      refine s4_13 rfl ?_
      refine v_tald2 d4_14 (by omega) (by omega) ?_
      rw [ei]
      refine s4_15 rfl ?_
      refine s4_16 ⟨by omega, by omega⟩ ⟨by omega, by omega⟩ (fun h16 => ?_) (fun h16 => ?_)
      · refine s4_21 rfl ?_
        refine s4_24 ?_
        have e2 : (60 : Int) - 6 * ((k + 1 : Nat) : Int) + 6 = 60 - 6 * (k : Int) := by omega
        rw [e2]
        exact ih (by omega) (by rw [if_neg (by omega)] at h; exact h)
      · refine s4_19 rfl ?_
        refine s4_20 (st := []) ?_
        have e3 : (60 : Int) - 6 * ((k : Int) + 1) = 60 - 6 * ((k + 1 : Nat) : Int) := by omega
        rw [if_pos (by omega), e3] at h
        exact h
theorem c4 {t : Int} (ht : ib t) (h : Q (.inl (some (.int (I (x_rwf 10 t))))) μ n) : x_V S 4 0 [some (.int (I t)), none] [] μ n Q := by
  refine s4_0 ?_
  refine s4_1 ?_
  exact l4 ht 10 (by omega) h
/-- which types the peer may send -/
def x_peer (t : Int) : Prop := t = 48 ∨ t = 49 ∨ t = 50 ∨ t = 52 ∨ t = 53 ∨ t = 65 ∨ t = 68 ∨ t = 70 ∨ t = 71
theorem x_rwf_peer (t : Int) : (t ≠ 56 ∧ x_rwf 10 t ≠ -1) ↔ x_peer t := by
  unfold x_peer
  simp only [x_rwf, x_rowsL]
  simp
  omega
theorem c1 {t : Int} (ht : ib t) (hY : x_peer t → Q (.inl (some (.int (I 1)))) μ n) (hN : ¬ x_peer t → Q (.inl (some (.int (I 0)))) μ n) : x_V S 1 0 [some (.int (I t))] [] μ n Q := by
  have ht1 := ht.1
  have ht2 := ht.2
  have hb := x_rwf_b 10 (by omega) t
  have hp := x_rwf_peer t
  refine s1_0 rfl ?_
  refine s1_1 ?_
  refine s1_3 ⟨by omega, by omega⟩ ⟨by omega, by omega⟩ (fun h3 => ?_) (fun h3 => ?_)
  · refine s1_18 ?_
    refine s1_19 (st := []) (by omega) ?_
    first | exact hY (hp.mp ⟨by omega, by omega⟩) | exact hN (fun q => by have := hp.mpr q; omega)
  · refine s1_6 rfl ?_
    refine s1_7 (by simp) ?_
    refine c4 ht ?_
    refine ⟨_, rfl, ?_⟩
    refine s1_10 ?_
    refine s1_11 ⟨by omega, by omega⟩ ⟨by omega, by omega⟩ (fun h11 => ?_) (fun h11 => ?_)
    · refine s1_18 ?_
      refine s1_19 (st := []) (by omega) ?_
      first | exact hY (hp.mp ⟨by omega, by omega⟩) | exact hN (fun q => by have := hp.mpr q; omega)
    · refine s1_14 ?_
      refine s1_15 ?_
      refine s1_19 (st := []) (by omega) ?_
      first | exact hY (hp.mp ⟨by omega, by omega⟩) | exact hN (fun q => by have := hp.mpr q; omega)
def x_fc (t : Int) : Int := if x_rwf 10 t = -1 then 0 else x_rowsL.getD (x_rwf 10 t + 1).toNat 0
def x_tg (t i : Int) : Int := if x_rwf 10 t = -1 ∨ i < 0 ∨ 4 ≤ i then 0 else x_rowsL.getD (x_rwf 10 t + 2 + i).toNat 0
theorem c2 {t : Int} (ht : ib t) (h : Q (.inl (some (.int (I (x_fc t))))) μ n) : x_V S 2 0 [some (.int (I t)), none] [] μ n Q := by
  have hb := x_rwf_b 10 (by omega) t
  unfold x_fc at h
  refine s2_0 rfl ?_
  refine s2_1 (by simp) ?_
  refine c4 ht ?_
  refine ⟨_, rfl, ?_⟩
  refine s2_4 ?_
  refine s2_5 rfl ?_
  refine s2_6 ?_
  refine s2_7 ⟨by omega, by omega⟩ ⟨by omega, by omega⟩ (fun h7 => ?_) (fun h7 => ?_)
  · refine s2_14 ?_
    refine s2_17 rfl ?_
    refine s2_18 ?_
    refine s2_19 ?_
    refine v_tald2 d2_20 (by omega) (by omega) ?_
    refine s2_21 (st := []) ?_
    first | (rw [if_pos (by omega)] at h; exact h) | (rw [if_neg (by omega)] at h; exact h)
  · refine s2_10 ?_
    refine s2_11 ?_
    refine s2_21 (st := []) ?_
    first | (rw [if_pos (by omega)] at h; exact h) | (rw [if_neg (by omega)] at h; exact h)
theorem c3 {t i : Int} (ht : ib t) (hi : ib i) (h : Q (.inl (some (.int (I (x_tg t i))))) μ n) : x_V S 3 0 [some (.int (I t)), some (.int (I i)), none] [] μ n Q := by
  have hb := x_rwf_b 10 (by omega) t
  have hi1 := hi.1
  have hi2 := hi.2
  unfold x_tg at h
  refine s3_0 rfl ?_
  refine s3_1 (by simp) ?_
  refine c4 ht ?_
  refine ⟨_, rfl, ?_⟩
  refine s3_4 ?_
  refine s3_5 rfl ?_
  refine s3_6 ?_
  refine s3_7 ⟨by omega, by omega⟩ ⟨by omega, by omega⟩ (fun h7 => ?_) (fun h7 => ?_)
  · refine s3_19 ?_
    refine s3_20 ?_
    refine s3_32 (st := []) ?_
    first | (rw [if_pos (by omega)] at h; exact h) | (rw [if_neg (by omega)] at h; exact h)
  · refine s3_10 rfl ?_
    refine s3_11 ⟨by omega, by omega⟩ (fun h11 => ?_) (fun h11 => ?_)
    · refine s3_19 ?_
      refine s3_20 ?_
      refine s3_32 (st := []) ?_
      first | (rw [if_pos (by omega)] at h; exact h) | (rw [if_neg (by omega)] at h; exact h)
    · refine s3_14 rfl ?_
      refine s3_15 ?_
      refine s3_16 ⟨by omega, by omega⟩ ⟨by omega, by omega⟩ (fun h16 => ?_) (fun h16 => ?_)
      · refine s3_23 ?_
        refine s3_26 rfl ?_
        refine s3_27 ?_
        refine s3_28 ?_
        refine s3_29 rfl ?_
        refine s3_30 ?_
        refine v_tald2 d3_31 (by omega) (by omega) ?_
        refine s3_32 (st := []) ?_
        first | (rw [if_pos (by omega)] at h; exact h) | (rw [if_neg (by omega)] at h; exact h)
      · refine s3_19 ?_
        refine s3_20 ?_
        refine s3_32 (st := []) ?_
        first | (rw [if_pos (by omega)] at h; exact h) | (rw [if_neg (by omega)] at h; exact h)
/-- an order's cell -/
def x_ord (a : Nat) : Prop := x_sh a = (7, 5) ∧ (∀ i, x_pt a i = none) ∧ a ≠ x_out
variable {a : Nat}
theorem c18 (ha : x_ord a) (h2 : ib (g a 2)) (h3 : ib (g a 3)) (h4 : ib (g a 4)) (h : Q (.inl (some (.int (I (if g a 4 = 0 ∧ g a 3 < g a 2 then 1 else 0))))) (x_vm g) n) : x_V S 18 0 [some (.ref a)] [] (x_vm g) n Q := by
  obtain ⟨ha1, hpo, ha2⟩ := ha
  obtain ⟨q1, q2⟩ := h2
  obtain ⟨q3, q4⟩ := h3
  obtain ⟨q5, q6⟩ := h4
  refine s18_0 rfl ?_
  refine s18_1 (by first | assumption | rfl) (by first | assumption | (exact hpo _) | rfl | decide) (by first | assumption | decide | omega) ?_
  refine s18_4 ⟨by omega, by omega⟩ (fun h4 => ?_) (fun h4 => ?_)
  · refine s18_22 ?_
    refine s18_23 (st := []) (by omega) ?_
    first | (rw [if_pos (by omega)] at h; exact h) | (rw [if_neg (by omega)] at h; exact h)
  · refine s18_7 rfl ?_
    refine s18_8 (by first | assumption | rfl) (by first | assumption | (exact hpo _) | rfl | decide) (by first | assumption | decide | omega) ?_
    refine s18_11 rfl ?_
    refine s18_12 (by first | assumption | rfl) (by first | assumption | (exact hpo _) | rfl | decide) (by first | assumption | decide | omega) ?_
    refine s18_15 ⟨by omega, by omega⟩ ⟨by omega, by omega⟩ (fun h15 => ?_) (fun h15 => ?_)
    · refine s18_22 ?_
      refine s18_23 (st := []) (by omega) ?_
      first | (rw [if_pos (by omega)] at h; exact h) | (rw [if_neg (by omega)] at h; exact h)
    · refine s18_18 ?_
      refine s18_19 ?_
      refine s18_23 (st := []) (by omega) ?_
      first | (rw [if_pos (by omega)] at h; exact h) | (rw [if_neg (by omega)] at h; exact h)
theorem c19 (ha : x_ord a) (h4 : ib (g a 4)) (h : Q (.inl (some (.int (I (if g a 4 = 0 then g a 2 - g a 3 else 0))))) (x_vm g) n) : x_V S 19 0 [some (.ref a)] [] (x_vm g) n Q := by
  obtain ⟨ha1, hpo, ha2⟩ := ha
  obtain ⟨q5, q6⟩ := h4
  refine s19_0 rfl ?_
  refine s19_1 (by first | assumption | rfl) (by first | assumption | (exact hpo _) | rfl | decide) (by first | assumption | decide | omega) ?_
  refine s19_4 ⟨by omega, by omega⟩ (fun h4 => ?_) (fun h4 => ?_)
  · refine s19_11 rfl ?_
    refine s19_12 (by first | assumption | rfl) (by first | assumption | (exact hpo _) | rfl | decide) (by first | assumption | decide | omega) ?_
    refine s19_15 rfl ?_
    refine s19_16 (by first | assumption | rfl) (by first | assumption | (exact hpo _) | rfl | decide) (by first | assumption | decide | omega) ?_
    refine s19_19 ?_
    refine s19_20 (st := []) ?_
    first | (rw [if_pos (by omega)] at h; exact h) | (rw [if_neg (by omega)] at h; exact h)
  · refine s19_7 ?_
    refine s19_8 ?_
    refine s19_20 (st := []) ?_
    first | (rw [if_pos (by omega)] at h; exact h) | (rw [if_neg (by omega)] at h; exact h)
/-- an order's state -/
def x_os (q f c : Int) : Int := if c ≠ 0 then 4 else if f = q then 2 else if 0 < f then 1 else 0
theorem c20 (ha : x_ord a) (h2 : ib (g a 2)) (h3 : ib (g a 3)) (h4 : ib (g a 4)) (h : Q (.inl (some (.int (I (x_os (g a 2) (g a 3) (g a 4)))))) (x_vm g) n) : x_V S 20 0 [some (.ref a)] [] (x_vm g) n Q := by
  obtain ⟨ha1, hpo, ha2⟩ := ha
  obtain ⟨q1, q2⟩ := h2
  obtain ⟨q3, q4⟩ := h3
  obtain ⟨q5, q6⟩ := h4
  unfold x_os at h
  refine s20_0 rfl ?_
  refine s20_1 (by first | assumption | rfl) (by first | assumption | (exact hpo _) | rfl | decide) (by first | assumption | decide | omega) ?_
  refine s20_4 ⟨by omega, by omega⟩ (fun h4 => ?_) (fun h4 => ?_)
  · refine s20_9 rfl ?_
    refine s20_10 (by first | assumption | rfl) (by first | assumption | (exact hpo _) | rfl | decide) (by first | assumption | decide | omega) ?_
    refine s20_13 rfl ?_
    refine s20_14 (by first | assumption | rfl) (by first | assumption | (exact hpo _) | rfl | decide) (by first | assumption | decide | omega) ?_
    refine s20_17 ⟨by omega, by omega⟩ ⟨by omega, by omega⟩ (fun h17 => ?_) (fun h17 => ?_)
    · refine s20_22 rfl ?_
      refine s20_23 (by first | assumption | rfl) (by first | assumption | (exact hpo _) | rfl | decide) (by first | assumption | decide | omega) ?_
      refine s20_26 ⟨by omega, by omega⟩ (fun h26 => ?_) (fun h26 => ?_)
      · refine s20_33 ?_
        refine s20_34 (st := []) ?_
        first | (rw [if_pos (by omega)] at h; exact h) | (rw [if_neg (by omega), if_pos (by omega)] at h; exact h) | (rw [if_neg (by omega), if_neg (by omega), if_pos (by omega)] at h; exact h) | (rw [if_neg (by omega), if_neg (by omega), if_neg (by omega)] at h; exact h)
      · refine s20_29 ?_
        refine s20_30 ?_
        refine s20_34 (st := []) ?_
        first | (rw [if_pos (by omega)] at h; exact h) | (rw [if_neg (by omega), if_pos (by omega)] at h; exact h) | (rw [if_neg (by omega), if_neg (by omega), if_pos (by omega)] at h; exact h) | (rw [if_neg (by omega), if_neg (by omega), if_neg (by omega)] at h; exact h)
    · refine s20_20 ?_
      refine s20_21 (st := []) ?_
      first | (rw [if_pos (by omega)] at h; exact h) | (rw [if_neg (by omega), if_pos (by omega)] at h; exact h) | (rw [if_neg (by omega), if_neg (by omega), if_pos (by omega)] at h; exact h) | (rw [if_neg (by omega), if_neg (by omega), if_neg (by omega)] at h; exact h)
  · refine s20_7 ?_
    refine s20_8 (st := []) ?_
    first | (rw [if_pos (by omega)] at h; exact h) | (rw [if_neg (by omega), if_pos (by omega)] at h; exact h) | (rw [if_neg (by omega), if_neg (by omega), if_pos (by omega)] at h; exact h) | (rw [if_neg (by omega), if_neg (by omega), if_neg (by omega)] at h; exact h)
theorem c11a {x : Int} (hr : x_row r o) (hb : 0 ≤ g r 1 ∧ g r 1 < 120) (h : Q (.inl none) (x_vm (x_app r o [x] g)) n) : x_V S 11 0 [some (.ref r), some (.int (I x))] [] (x_vm g) n Q := c11 hr hb h
def x_nf (t v : Int) : List Int := x_dk 6 0 t ++ [61] ++ x_dk 6 0 v ++ [1]
def x_chf (t v : Int) : List Int := x_dk 6 0 t ++ [61] ++ [v] ++ [1]
theorem c13 {t v : Int} (hr : x_row r o) (ht : 0 ≤ t ∧ t ≤ 2147483647) (hv : 0 ≤ v ∧ v ≤ 2147483647) (h0 : 0 ≤ g r 1) (h1 : g r 1 + 14 ≤ 120) (h : Q (.inl none) (x_vm (x_app r o (x_nf t v) g)) n) : x_V S 13 0 [some (.ref r), some (.int (I t)), some (.int (I v))] [] (x_vm g) n Q := by
  have hrr := hr
  obtain ⟨hr1, hr2, hr3, hr4, hr5, hpo, hr6, hr7⟩ := hr
  have hl1 := x_dk_len 6 0 t
  have hl2 := x_dk_len 6 0 v
  refine s13_0 rfl ?_
  refine s13_1 rfl ?_
  refine s13_2 (by first | assumption | rfl) (by simp) ?_
  refine c12 hrr ht h0 (by omega) ?_
  refine ⟨_, rfl, ?_⟩
  refine s13_5 rfl ?_
  refine s13_6 ?_
  refine s13_8 (by first | assumption | rfl) (by simp) ?_
  refine c11a hrr ⟨(by simp only [x_app_sz hr7, List.length_append, List.length_cons, List.length_nil]; omega), (by simp only [x_app_sz hr7, List.length_append, List.length_cons, List.length_nil]; omega)⟩ ?_
  refine ⟨_, rfl, ?_⟩
  rw [← x_app_app]
  refine s13_11 rfl ?_
  refine s13_12 rfl ?_
  refine s13_13 (by first | assumption | rfl) (by simp) ?_
  refine c12 hrr hv (by simp only [x_app_sz hr7, List.length_append, List.length_cons, List.length_nil]; omega) (by simp only [x_app_sz hr7, List.length_append, List.length_cons, List.length_nil]; omega) ?_
  refine ⟨_, rfl, ?_⟩
  rw [← x_app_app]
  refine s13_16 rfl ?_
  refine s13_17 ?_
  refine s13_18 (by first | assumption | rfl) (by simp) ?_
  refine c11a hrr ⟨(by simp only [x_app_sz hr7, List.length_append, List.length_cons, List.length_nil]; omega), (by simp only [x_app_sz hr7, List.length_append, List.length_cons, List.length_nil]; omega)⟩ ?_
  refine ⟨_, rfl, ?_⟩
  rw [← x_app_app]
  refine s13_21 (st := []) ?_
  exact h
theorem c14 {t v : Int} (hr : x_row r o) (ht : 0 ≤ t ∧ t ≤ 2147483647) (h0 : 0 ≤ g r 1) (h1 : g r 1 + 9 ≤ 120) (h : Q (.inl none) (x_vm (x_app r o (x_chf t v) g)) n) : x_V S 14 0 [some (.ref r), some (.int (I t)), some (.int (I v))] [] (x_vm g) n Q := by
  have hrr := hr
  obtain ⟨hr1, hr2, hr3, hr4, hr5, hpo, hr6, hr7⟩ := hr
  have hl1 := x_dk_len 6 0 t
  refine s14_0 rfl ?_
  refine s14_1 rfl ?_
  refine s14_2 (by first | assumption | rfl) (by simp) ?_
  refine c12 hrr ht h0 (by omega) ?_
  refine ⟨_, rfl, ?_⟩
  refine s14_5 rfl ?_
  refine s14_6 ?_
  refine s14_8 (by first | assumption | rfl) (by simp) ?_
  refine c11a hrr ⟨(by simp only [x_app_sz hr7, List.length_append, List.length_cons, List.length_nil]; omega), (by simp only [x_app_sz hr7, List.length_append, List.length_cons, List.length_nil]; omega)⟩ ?_
  refine ⟨_, rfl, ?_⟩
  rw [← x_app_app]
  refine s14_11 rfl ?_
  refine s14_12 rfl ?_
  refine s14_13 (by first | assumption | rfl) (by simp) ?_
  refine c11a hrr ⟨(by simp only [x_app_sz hr7, List.length_append, List.length_cons, List.length_nil]; omega), (by simp only [x_app_sz hr7, List.length_append, List.length_cons, List.length_nil]; omega)⟩ ?_
  refine ⟨_, rfl, ?_⟩
  rw [← x_app_app]
  refine s14_16 rfl ?_
  refine s14_17 ?_
  refine s14_18 (by first | assumption | rfl) (by simp) ?_
  refine c11a hrr ⟨(by simp only [x_app_sz hr7, List.length_append, List.length_cons, List.length_nil]; omega), (by simp only [x_app_sz hr7, List.length_append, List.length_cons, List.length_nil]; omega)⟩ ?_
  refine ⟨_, rfl, ?_⟩
  rw [← x_app_app]
  refine s14_21 (st := []) ?_
  exact h
def x_sf (s : Int) : List Int := x_dk 6 0 10 ++ [61] ++ [48 + s / 100] ++ [48 + s / 10 % 10] ++ [48 + s % 10] ++ [1]
theorem c15 (hr : x_row r o) (hv : ∀ j, j < 120 → 0 ≤ g o j ∧ g o j ≤ 127) (h0 : 0 ≤ g r 1) (h1 : g r 1 + 11 ≤ 120) (h : Q (.inl none) (x_vm (x_app r o (x_sf (x_sm (g o) (g r 1).toNat % 256)) g)) n) : x_V S 15 0 [some (.ref r), none] [] (x_vm g) n Q := by
  have hrr := hr
  obtain ⟨hr1, hr2, hr3, hr4, hr5, hpo, hr6, hr7⟩ := hr
  have hl1 := x_dk_len 6 0 10
  have hs0 : 0 ≤ x_sm (g o) (g r 1).toNat % 256 ∧ x_sm (g o) (g r 1).toNat % 256 ≤ 255 := by omega
  refine s15_0 rfl ?_
  refine s15_1 rfl ?_
  refine s15_2 (by first | assumption | rfl) (by first | assumption | (exact hpo _) | rfl | decide) (by first | assumption | decide | omega) ?_
  refine s15_5 (by first | assumption | rfl) (by simp) ?_
  refine c16 hrr ⟨by omega, by omega⟩ ⟨by omega, by omega⟩ hv (m := (g r 1).toNat) (by rw [if_pos (Int.le_refl _), if_pos h0]; omega) ?_
  refine ⟨_, rfl, ?_⟩
  generalize x_sm (g o) (g r 1).toNat % 256 = s at *
  refine s15_8 ?_
  refine s15_9 rfl ?_
  refine s15_10 ?_
  refine s15_12 (by first | assumption | rfl) (by simp) ?_
  refine c12 hrr ⟨by omega, by omega⟩ h0 (by omega) ?_
  refine ⟨_, rfl, ?_⟩
  refine s15_15 rfl ?_
  refine s15_16 ?_
  refine s15_18 (by first | assumption | rfl) (by simp) ?_
  refine c11a hrr ⟨(by simp only [x_app_sz hr7, List.length_append, List.length_cons, List.length_nil]; omega), (by simp only [x_app_sz hr7, List.length_append, List.length_cons, List.length_nil]; omega)⟩ ?_
  refine ⟨_, rfl, ?_⟩
  rw [← x_app_app]
  refine s15_21 rfl ?_
  refine s15_22 ?_
  refine s15_24 rfl ?_
  refine s15_25 ?_
  refine s15_27 ⟨by omega, by omega⟩ ⟨by omega, by omega⟩ (by omega) (by omega) ?_
  refine s15_28 ?_
  refine s15_29 (by first | assumption | rfl) (by simp) ?_
  refine c11a hrr ⟨(by simp only [x_app_sz hr7, List.length_append, List.length_cons, List.length_nil]; omega), (by simp only [x_app_sz hr7, List.length_append, List.length_cons, List.length_nil]; omega)⟩ ?_
  refine ⟨_, rfl, ?_⟩
  rw [← x_app_app]
  refine s15_32 rfl ?_
  refine s15_33 ?_
  refine s15_35 rfl ?_
  refine s15_36 ?_
  refine s15_38 ⟨by omega, by omega⟩ ⟨by omega, by omega⟩ (by omega) (by omega) ?_
  refine s15_39 ?_
  refine s15_41 ⟨by omega, by omega⟩ ⟨by omega, by omega⟩ (by omega) (by omega) ?_
  refine s15_42 ?_
  refine s15_43 (by first | assumption | rfl) (by simp) ?_
  refine c11a hrr ⟨(by simp only [x_app_sz hr7, List.length_append, List.length_cons, List.length_nil]; omega), (by simp only [x_app_sz hr7, List.length_append, List.length_cons, List.length_nil]; omega)⟩ ?_
  refine ⟨_, rfl, ?_⟩
  rw [← x_app_app]
  refine s15_46 rfl ?_
  refine s15_47 ?_
  refine s15_49 rfl ?_
  refine s15_50 ?_
  refine s15_52 ⟨by omega, by omega⟩ ⟨by omega, by omega⟩ (by omega) (by omega) ?_
  refine s15_53 ?_
  refine s15_54 (by first | assumption | rfl) (by simp) ?_
  refine c11a hrr ⟨(by simp only [x_app_sz hr7, List.length_append, List.length_cons, List.length_nil]; omega), (by simp only [x_app_sz hr7, List.length_append, List.length_cons, List.length_nil]; omega)⟩ ?_
  refine ⟨_, rfl, ?_⟩
  rw [← x_app_app]
  refine s15_57 rfl ?_
  refine s15_58 ?_
  refine s15_59 (by first | assumption | rfl) (by simp) ?_
  refine c11a hrr ⟨(by simp only [x_app_sz hr7, List.length_append, List.length_cons, List.length_nil]; omega), (by simp only [x_app_sz hr7, List.length_append, List.length_cons, List.length_nil]; omega)⟩ ?_
  refine ⟨_, rfl, ?_⟩
  rw [← x_app_app]
  refine s15_62 (st := []) ?_
  exact h
end CL
