/-! 20.row: contracts of Row, Layout, Order. -/
section CR
variable {S : Nat × (Nat → Int32)} {g : Nat → Nat → Int} {n r o : Nat} {Q : xQ}
/-- a row of bytes at r, its array at o -/
def x_row (r o : Nat) : Prop := x_sh r = (2, 2) ∧ x_pt r 0 = some (.ref o) ∧ x_pt r 1 = none ∧ r ≠ x_out ∧ x_sh o = (100, 120) ∧ (∀ i, x_pt o i = none) ∧ o ≠ x_out ∧ r ≠ o
theorem x_row4 : x_row 4 5 := ⟨rfl, rfl, rfl, by decide, rfl, fun _ => rfl, by decide, by decide⟩
theorem x_row11 : x_row 11 12 := ⟨rfl, rfl, rfl, by decide, rfl, fun _ => rfl, by decide, by decide⟩
theorem c6 (hr : x_row r o) (h : Q (.inl none) (x_vm (x_uf g r 1 0)) n) : x_V S 6 0 [some (.ref r)] [] (x_vm g) n Q := by
  obtain ⟨hr1, hr2, hr3, hr4, hr5, hpo, hr6, hr7⟩ := hr
  refine s6_0 rfl ?_
  refine s6_1 ?_
  refine s6_2 (by first | assumption | rfl) (by first | assumption | (exact hpo _) | rfl | decide) (by first | assumption | decide | omega) ?_
  refine s6_5 (st := []) ?_
  exact h
theorem c7 (hr : x_row r o) (hb : ib (g r 1)) (h : Q (.inl (some (.int (I (if 120 ≤ g r 1 then 1 else 0))))) (x_vm g) n) : x_V S 7 0 [some (.ref r)] [] (x_vm g) n Q := by
  obtain ⟨hr1, hr2, hr3, hr4, hr5, hpo, hr6, hr7⟩ := hr
  have hb1 := hb.1
  have hb2 := hb.2
  refine s7_0 rfl ?_
  refine s7_1 (by first | assumption | rfl) (by first | assumption | (exact hpo _) | rfl | decide) (by first | assumption | decide | omega) ?_
  refine s7_4 ?_
  refine s7_6 ⟨by omega, by omega⟩ ⟨by omega, by omega⟩ (fun h6 => ?_) (fun h6 => ?_)
  · refine s7_13 ?_
    refine s7_14 (st := []) (by omega) ?_
    first | (rw [if_pos (by omega)] at h; exact h) | (rw [if_neg (by omega)] at h; exact h)
  · refine s7_9 ?_
    refine s7_10 ?_
    refine s7_14 (st := []) (by omega) ?_
    first | (rw [if_pos (by omega)] at h; exact h) | (rw [if_neg (by omega)] at h; exact h)
theorem c8 {i : Int} (hr : x_row r o) (hi : ib i) (hb : ib (g r 1)) (h : Q (.inl (some (.int (I (if 0 ≤ i ∧ i < g r 1 then 1 else 0))))) (x_vm g) n) : x_V S 8 0 [some (.ref r), some (.int (I i))] [] (x_vm g) n Q := by
  obtain ⟨hr1, hr2, hr3, hr4, hr5, hpo, hr6, hr7⟩ := hr
  have hb1 := hb.1
  have hb2 := hb.2
  have hi1 := hi.1
  have hi2 := hi.2
  refine s8_0 rfl ?_
  refine s8_1 ⟨by omega, by omega⟩ (fun h1 => ?_) (fun h1 => ?_)
  · refine s8_16 ?_
    refine s8_17 (st := []) (by omega) ?_
    first | (rw [if_pos (by omega)] at h; exact h) | (rw [if_neg (by omega)] at h; exact h)
  · refine s8_4 rfl ?_
    refine s8_5 rfl ?_
    refine s8_6 (by first | assumption | rfl) (by first | assumption | (exact hpo _) | rfl | decide) (by first | assumption | decide | omega) ?_
    refine s8_9 ⟨by omega, by omega⟩ ⟨by omega, by omega⟩ (fun h9 => ?_) (fun h9 => ?_)
    · refine s8_16 ?_
      refine s8_17 (st := []) (by omega) ?_
      first | (rw [if_pos (by omega)] at h; exact h) | (rw [if_neg (by omega)] at h; exact h)
    · refine s8_12 ?_
      refine s8_13 ?_
      refine s8_17 (st := []) (by omega) ?_
      first | (rw [if_pos (by omega)] at h; exact h) | (rw [if_neg (by omega)] at h; exact h)
/-- what Row.at answers -/
def x_atv (g : Nat → Nat → Int) (r o : Nat) (i : Int) : Int := if 0 ≤ i ∧ i < g r 1 then g o i.toNat else -1
theorem c9 {i : Int} (hr : x_row r o) (hi : ib i) (hb : 0 ≤ g r 1 ∧ g r 1 ≤ 120) (h : Q (.inl (some (.int (I (x_atv g r o i))))) (x_vm g) n) : x_V S 9 0 [some (.ref r), some (.int (I i))] [] (x_vm g) n Q := by
  obtain ⟨hr1, hr2, hr3, hr4, hr5, hpo, hr6, hr7⟩ := hr
  have hb1 := hb.1
  have hb2 := hb.2
  have hi1 := hi.1
  have hi2 := hi.2
  unfold x_atv at h
  refine s9_0 rfl ?_
  refine s9_1 ⟨by omega, by omega⟩ (fun h1 => ?_) (fun h1 => ?_)
  · refine s9_21 ?_
    refine s9_22 (st := []) ?_
    first | (rw [if_pos (by omega)] at h; exact h) | (rw [if_neg (by omega)] at h; exact h)
  · refine s9_4 rfl ?_
    refine s9_5 rfl ?_
    refine s9_6 (by first | assumption | rfl) (by first | assumption | (exact hpo _) | rfl | decide) (by first | assumption | decide | omega) ?_
    refine s9_9 ⟨by omega, by omega⟩ ⟨by omega, by omega⟩ (fun h9 => ?_) (fun h9 => ?_)
    · refine s9_21 ?_
      refine s9_22 (st := []) ?_
      first | (rw [if_pos (by omega)] at h; exact h) | (rw [if_neg (by omega)] at h; exact h)
    · refine s9_12 rfl ?_
      refine s9_13 (by first | assumption | rfl) (by first | assumption | (exact hpo _) | rfl | decide) ?_
      refine s9_16 rfl ?_
      refine v_iald d9_17 (by first | assumption | rfl) (by omega) (by omega) (by omega) (by first | assumption | (exact hpo _) | rfl | decide) (by first | assumption | decide | omega) ?_
      refine s9_18 ?_
      refine s9_22 (st := []) ?_
      first | (rw [if_pos (by omega)] at h; exact h) | (rw [if_neg (by omega)] at h; exact h)
theorem c10 {i x : Int} (hr : x_row r o) (hi : ib i) (hb : 0 ≤ g r 1 ∧ g r 1 ≤ 120) (hin : 0 ≤ i ∧ i < g r 1) (h : Q (.inl none) (x_vm (x_uf g o i.toNat x)) n) : x_V S 10 0 [some (.ref r), some (.int (I i)), some (.int (I x))] [] (x_vm g) n Q := by
  have hrr := hr
  obtain ⟨hr1, hr2, hr3, hr4, hr5, hpo, hr6, hr7⟩ := hr
  have hb1 := hb.1
  have hb2 := hb.2
  have hi1 := hi.1
  have hi2 := hi.2
  have hq1 := hin.1
  have hq2 := hin.2
  refine s10_0 rfl ?_
  refine s10_1 rfl ?_
  refine s10_2 (by first | assumption | rfl) (by simp) ?_
  refine c8 hrr hi ⟨by omega, by omega⟩ ?_
  refine ⟨_, rfl, ?_⟩
  rw [if_pos hin]
  refine s10_5 ⟨by omega, by omega⟩ (fun h5 => ?_) (fun h5 => ?_)
  · refine s10_15 (st := []) ?_
    first | (exfalso; omega) | exact h
  · refine s10_8 rfl ?_
    refine s10_9 (by first | assumption | rfl) (by first | assumption | (exact hpo _) | rfl | decide) ?_
    refine s10_12 rfl ?_
    refine s10_13 rfl ?_
    refine v_iast d10_14 (by first | assumption | rfl) (by omega) (by omega) (by omega) (by first | assumption | (exact hpo _) | rfl | decide) (by first | assumption | decide | omega) ?_
    refine s10_15 (st := []) ?_
    first | (exfalso; omega) | exact h
theorem c11 {x : Int} (hr : x_row r o) (hb : 0 ≤ g r 1 ∧ g r 1 < 120) (h : Q (.inl none) (x_vm (x_uf (x_uf g o (g r 1).toNat x) r 1 (g r 1 + 1))) n) : x_V S 11 0 [some (.ref r), some (.int (I x))] [] (x_vm g) n Q := by
  obtain ⟨hr1, hr2, hr3, hr4, hr5, hpo, hr6, hr7⟩ := hr
  have hb1 := hb.1
  have hb2 := hb.2
  have e1 : x_uf g o (g r 1).toNat x r 1 = g r 1 := x_uf_ne (fun q => hr7 q.1)
  rw [← e1] at h
  refine s11_0 rfl ?_
  refine s11_1 (by first | assumption | rfl) (by first | assumption | (exact hpo _) | rfl | decide) (by first | assumption | decide | omega) ?_
  refine s11_4 ?_
  refine s11_6 ⟨by omega, by omega⟩ ⟨by omega, by omega⟩ (fun h6 => ?_) (fun h6 => ?_)
  · refine s11_29 (st := []) ?_
    first | (exfalso; omega) | (rw [e1] at h; rw [e1]; exact h)
  · refine s11_9 rfl ?_
    refine s11_10 (by first | assumption | rfl) (by first | assumption | (exact hpo _) | rfl | decide) ?_
    refine s11_13 rfl ?_
    refine s11_14 (by first | assumption | rfl) (by first | assumption | (exact hpo _) | rfl | decide) (by first | assumption | decide | omega) ?_
    refine s11_17 rfl ?_
    refine v_iast d11_18 (by first | assumption | rfl) (by omega) (by omega) (by omega) (by first | assumption | (exact hpo _) | rfl | decide) (by first | assumption | decide | omega) ?_
    refine s11_19 rfl ?_
    refine s11_20 rfl ?_
    refine s11_21 (by first | assumption | rfl) (by first | assumption | (exact hpo _) | rfl | decide) (by first | assumption | decide | omega) ?_
    refine s11_24 ?_
    refine s11_25 ?_
    refine s11_26 (by first | assumption | rfl) (by first | assumption | (exact hpo _) | rfl | decide) (by first | assumption | decide | omega) ?_
    refine s11_29 (st := []) ?_
    first | (exfalso; omega) | (rw [e1] at h; rw [e1]; exact h)
/-- the sum of the first n values -/
def x_sm (f : Nat → Int) : Nat → Int
  | 0 => 0
  | n + 1 => x_sm f n + f n
theorem x_sm_b {f : Nat → Int} {N : Nat} (hf : ∀ j, j < N → 0 ≤ f j ∧ f j ≤ 127) : ∀ n, n ≤ N → 0 ≤ x_sm f n ∧ x_sm f n ≤ 127 * n := by
  intro n
  induction n with
  | zero => intro _; exact ⟨Int.le_refl _, by simp [x_sm]⟩
  | succ n ih =>
    intro hn
    have h1 := ih (by omega)
    have h2 := hf n (by omega)
    simp only [x_sm]
    omega
theorem l16 {e : Int} {m : Nat} (hr : x_row r o) (he : ib e) (hb : 0 ≤ g r 1 ∧ g r 1 ≤ 120) (hv : ∀ j, j < 120 → 0 ≤ g o j ∧ g o j ≤ 127) (hm : (m : Int) = if e ≤ g r 1 then (if 0 ≤ e then e else 0) else g r 1)
    (h : Q (.inl (some (.int (I (x_sm (g o) m % 256))))) (x_vm g) n) : ∀ (d j : Nat), j + d = m → x_V S 16 4 [some (.ref r), some (.int (I e)), some (.int (I (x_sm (g o) j))), some (.int (I j))] [] (x_vm g) n Q := by
  obtain ⟨hr1, hr2, hr3, hr4, hr5, hpo, hr6, hr7⟩ := hr
  have hb1 := hb.1
  have hb2 := hb.2
  have he1 := he.1
  have he2 := he.2
  have hm2 : m ≤ 120 := by split at hm <;> (try split at hm) <;> omega
  intro d
  induction d with
  | zero =>
    intro j hj
    have hjm : j = m := by omega
    subst hjm
    have hs := x_sm_b hv j hm2
    refine s16_4 rfl ?_
    refine s16_5 rfl ?_
    refine s16_6 ⟨by omega, by omega⟩ ⟨by omega, by omega⟩ (fun h6 => ?_) (fun h6 => ?_)
    · refine s16_32 rfl ?_
      refine s16_33 ?_
      refine s16_36 ⟨by omega, by omega⟩ ⟨by omega, by omega⟩ (by omega) (by omega) ?_
      refine s16_37 (st := []) ?_
      exact h
    · refine s16_9 rfl ?_
      refine s16_10 rfl ?_
      refine s16_11 (by first | assumption | rfl) (by first | assumption | (exact hpo _) | rfl | decide) (by first | assumption | decide | omega) ?_
      refine s16_14 ⟨by omega, by omega⟩ ⟨by omega, by omega⟩ (fun h14 => ?_) (fun h14 => ?_)
      · refine s16_32 rfl ?_
        refine s16_33 ?_
        refine s16_36 ⟨by omega, by omega⟩ ⟨by omega, by omega⟩ (by omega) (by omega) ?_
        refine s16_37 (st := []) ?_
        exact h
      · exfalso
        split at hm <;> (try split at hm) <;> omega
  | succ d ih =>
    intro j hj
    have hs := x_sm_b hv j (by omega)
    have hs2 := hv j (by omega)
    have hlt : (j : Int) < e ∧ (j : Int) < g r 1 := by split at hm <;> (try split at hm) <;> omega
    have hl1 := hlt.1
    have hl2 := hlt.2
    refine s16_4 rfl ?_
    refine s16_5 rfl ?_
    refine s16_6 ⟨by omega, by omega⟩ ⟨by omega, by omega⟩ (fun h6 => ?_) (fun h6 => ?_)
    · exfalso; omega
    · refine s16_9 rfl ?_
      refine s16_10 rfl ?_
      refine s16_11 (by first | assumption | rfl) (by first | assumption | (exact hpo _) | rfl | decide) (by first | assumption | decide | omega) ?_
      refine s16_14 ⟨by omega, by omega⟩ ⟨by omega, by omega⟩ (fun h14 => ?_) (fun h14 => ?_)
      · exfalso; omega
      · refine s16_17 rfl ?_
        refine s16_18 rfl ?_
        refine s16_19 (by first | assumption | rfl) (by first | assumption | (exact hpo _) | rfl | decide) ?_
        refine s16_22 rfl ?_
        refine v_iald d16_23 (by first | assumption | rfl) (by omega) (by omega) (by omega) (by first | assumption | (exact hpo _) | rfl | decide) (by first | assumption | decide | omega) ?_
        refine s16_24 ?_
        refine s16_25 ?_
        refine s16_26 rfl ?_
        refine s16_29 ?_
        exact ih (j + 1) (by omega)
theorem c16 {e : Int} (hr : x_row r o) (he : ib e) (hb : 0 ≤ g r 1 ∧ g r 1 ≤ 120) (hv : ∀ j, j < 120 → 0 ≤ g o j ∧ g o j ≤ 127) {m : Nat} (hm : (m : Int) = if e ≤ g r 1 then (if 0 ≤ e then e else 0) else g r 1)
    (h : Q (.inl (some (.int (I (x_sm (g o) m % 256))))) (x_vm g) n) : x_V S 16 0 [some (.ref r), some (.int (I e)), none, none] [] (x_vm g) n Q := by
  refine s16_0 ?_
  refine s16_1 ?_
  refine s16_2 ?_
  refine s16_3 ?_
  exact l16 hr he hb hv hm h m 0 (by omega)
/-- the memory with the values appended to the row -/
def x_app (r o : Nat) : List Int → (Nat → Nat → Int) → (Nat → Nat → Int)
  | [], g => g
  | x :: l, g => x_app r o l (x_uf (x_uf g o (g r 1).toNat x) r 1 (g r 1 + 1))
theorem x_app_app (r o : Nat) (l1 l2 : List Int) (g : Nat → Nat → Int) : x_app r o (l1 ++ l2) g = x_app r o l2 (x_app r o l1 g) := by
  induction l1 generalizing g with
  | nil => rfl
  | cons x l ih => exact ih _
theorem x_app_sz (h : r ≠ o) (l : List Int) (g : Nat → Nat → Int) : x_app r o l g r 1 = g r 1 + l.length := by
  induction l generalizing g with
  | nil => simp [x_app]
  | cons x l ih =>
    simp only [x_app]
    rw [ih, x_uf_eq]
    simp only [List.length_cons]
    omega
theorem x_app_ot {a i : Nat} (l : List Int) (g : Nat → Nat → Int) (h1 : ¬ (a = r ∧ i = 1)) (h2 : a ≠ o) : x_app r o l g a i = g a i := by
  induction l generalizing g with
  | nil => rfl
  | cons x l ih =>
    simp only [x_app]
    rw [ih, x_uf_ne h1, x_uf_ne (fun q => h2 q.1)]
theorem x_app_at (h : r ≠ o) (l : List Int) (g : Nat → Nat → Int) (h0 : 0 ≤ g r 1) (j : Nat) : x_app r o l g o j = if (j : Int) < g r 1 then g o j else if (j : Int) < g r 1 + l.length then l.getD (j - (g r 1).toNat) 0 else g o j := by
  induction l generalizing g with
  | nil =>
    simp only [x_app, List.length_nil]
    split
    · rfl
    · split
      · omega
      · rfl
  | cons x l ih =>
    simp only [x_app]
    have e1 : x_uf (x_uf g o (g r 1).toNat x) r 1 (g r 1 + 1) r 1 = g r 1 + 1 := x_uf_eq _ _ _ _
    have e2 : x_uf (x_uf g o (g r 1).toNat x) r 1 (g r 1 + 1) o j = if j = (g r 1).toNat then x else g o j := by
      rw [x_uf_ne (fun q => h q.1.symm)]
      unfold x_uf
      by_cases hj : j = (g r 1).toNat
      · rw [if_pos ⟨rfl, hj⟩, if_pos hj]
      · rw [if_neg (fun q => hj q.2), if_neg hj]
    rw [ih _ (by rw [e1]; omega), e1, e2]
    simp only [List.length_cons]
    by_cases h1 : (j : Int) < g r 1
    · rw [if_pos (by omega), if_pos h1, if_neg (by omega)]
    · rw [if_neg h1]
      by_cases h2 : j = (g r 1).toNat
      · rw [if_pos (by omega), if_pos h2, if_pos (by omega), h2]
        simp
      · rw [if_neg (by omega), if_neg h2]
        by_cases h3 : (j : Int) < g r 1 + 1 + l.length
        · rw [if_pos h3, if_pos (by omega), show j - (g r 1).toNat = (j - (g r 1 + 1).toNat) + 1 by omega]
          simp
        · rw [if_neg h3, if_neg (by omega)]
/-- the digits of a number below a million, by units; b: have digits begun -/
def x_dk : Nat → Int → Int → List Int
  | 0, _, _ => []
  | k + 1, b, v => if b ≠ 0 ∨ v / 10 ^ k % 10 ≠ 0 ∨ k = 0 then (48 + v / 10 ^ k % 10) :: x_dk k 1 v else x_dk k 0 v
theorem x_dk_len (k : Nat) (b v : Int) : (x_dk k b v).length ≤ k := by
  induction k generalizing b with
  | zero => simp [x_dk]
  | succ k ih =>
    simp only [x_dk]
    split
    · have := ih 1
      simp only [List.length_cons]
      omega
    · have := ih 0
      omega
def x_u (k : Nat) : Int := if k = 0 then 0 else 10 ^ (k - 1)
theorem x_u_b : ∀ k, k ≤ 6 → 0 ≤ x_u k ∧ x_u k ≤ 100000 ∧ (0 < k → 0 < x_u k) := by decide
theorem x_u_s : ∀ k, k ≤ 5 → x_u (k + 1) / 10 = x_u k ∧ x_u (k + 1) = 10 ^ k ∧ (x_u (k + 1) = 1 ↔ k = 0) := by decide
theorem l12 {v : Int} (hr : x_row r o) (hv : 0 ≤ v ∧ v ≤ 2147483647) : ∀ (k : Nat), k ≤ 6 → ∀ (g : Nat → Nat → Int) (b : Int) (d : Option Value), (b = 0 ∨ b = 1) → 0 ≤ g r 1 → g r 1 + k ≤ 120 → (Q (.inl none) (x_vm (x_app r o (x_dk k b v) g)) n) →
    x_V S 12 5 [some (.ref r), some (.int (I v)), some (.int (I b)), some (.int (I (x_u k))), d] [] (x_vm g) n Q := by
  intro k
  induction k with
  | zero =>
    intro _ g b d hb h0 h1 h
    have e0 : x_u 0 = 0 := rfl
    rw [e0]
    refine s12_5 rfl ?_
    refine s12_6 ⟨by omega, by omega⟩ (fun h6 => ?_) (fun h6 => ?_)
    · refine s12_58 (st := []) ?_
      exact h
    · exfalso; omega
  | succ k ih =>
    intro hk g b d hb h0 h1 h
    have hu := x_u_b (k + 1) hk
    have hu3 := hu.2.2 (by omega)
    have hs := x_u_s k (by omega)
    have hs2 := hs.2.2
    have hv1 := hv.1
    have hv2 := hv.2
    have hr1 := hr.1
    generalize hU : x_u (k + 1) = u at *
    have hd1 : 0 ≤ v / u := Int.ediv_nonneg hv1 (by omega)
    have hd2 : v / u ≤ v := Int.ediv_le_self u hv1
    have hd3 : 0 ≤ v / u % 10 ∧ v / u % 10 ≤ 9 := ⟨Int.emod_nonneg _ (by omega), by have := Int.emod_lt_of_pos (v / u) (show (0 : Int) < 10 by omega); omega⟩
    simp only [x_dk] at h
    rw [← hs.2.1] at h
    have stepY : (b ≠ 0 ∨ v / u % 10 ≠ 0 ∨ k = 0) → x_V S 12 41 [some (.ref r), some (.int (I v)), some (.int (I 1)), some (.int (I u)), some (.int (I (v / u % 10)))] [] (x_vm g) n Q := by
      intro hc
      rw [if_pos hc] at h
      refine s12_41 rfl ?_
      refine s12_42 ?_
      refine s12_44 rfl ?_
      refine s12_46 ?_
      refine s12_47 (by first | assumption | rfl) (by simp) ?_
      refine c11 hr ⟨h0, by omega⟩ ?_
      refine ⟨_, rfl, ?_⟩
      refine s12_50 rfl ?_
      refine s12_51 ?_
      refine s12_53 ⟨by omega, by omega⟩ ⟨by omega, by omega⟩ (by omega) (by omega) ?_
      refine s12_54 ?_
      refine s12_55 ?_
      rw [hs.1]
      refine ih (by omega) _ 1 _ (Or.inr rfl) (by rw [x_uf_eq]; omega) (by rw [x_uf_eq]; omega) h
    have stepN : ¬ (b ≠ 0 ∨ v / u % 10 ≠ 0 ∨ k = 0) → x_V S 12 50 [some (.ref r), some (.int (I v)), some (.int (I 0)), some (.int (I u)), some (.int (I (v / u % 10)))] [] (x_vm g) n Q := by
      intro hc
      rw [if_neg hc] at h
      refine s12_50 rfl ?_
      refine s12_51 ?_
      refine s12_53 ⟨by omega, by omega⟩ ⟨by omega, by omega⟩ (by omega) (by omega) ?_
      refine s12_54 ?_
      refine s12_55 ?_
      rw [hs.1]
      refine ih (by omega) _ 0 _ (Or.inl rfl) h0 (by omega) h
    refine s12_5 rfl ?_
    refine s12_6 ⟨by omega, by omega⟩ (fun h6 => ?_) (fun h6 => ?_)
    · exfalso; omega
    · refine s12_9 rfl ?_
      refine s12_10 rfl ?_
      refine s12_11 ⟨by omega, by omega⟩ ⟨by omega, by omega⟩ (by omega) (by omega) ?_
      refine s12_12 ?_
      refine s12_14 ⟨by omega, by omega⟩ ⟨by omega, by omega⟩ (by omega) (by omega) ?_
      refine s12_15 ?_
      refine s12_17 rfl ?_
      refine s12_18 ⟨by omega, by omega⟩ (fun h18 => ?_) (fun h18 => ?_)
      · refine s12_31 ?_
        refine s12_32 ?_
        refine s12_36 ?_
        refine s12_37 rfl ?_
        refine s12_38 ⟨by omega, by omega⟩ (fun h38 => ?_) (fun h38 => ?_)
        · first | exact stepN (by omega) | (exfalso; omega)
        · first | exact stepY (by omega) | (exfalso; omega)
      · refine s12_21 rfl ?_
        refine s12_23 ⟨by omega, by omega⟩ (fun h23 => ?_) (fun h23 => ?_)
        · refine s12_31 ?_
          refine s12_32 ?_
          refine s12_36 ?_
          refine s12_37 rfl ?_
          refine s12_38 ⟨by omega, by omega⟩ (fun h38 => ?_) (fun h38 => ?_)
          · first | exact stepN (by omega) | (exfalso; omega)
          · first | exact stepY (by omega) | (exfalso; omega)
        · refine s12_26 rfl ?_
          refine s12_27 ?_
          refine s12_28 ⟨by omega, by omega⟩ ⟨by omega, by omega⟩ (fun h28 => ?_) (fun h28 => ?_)
          · refine s12_35 ?_
            refine s12_36 ?_
            refine s12_37 rfl ?_
            refine s12_38 ⟨by omega, by omega⟩ (fun h38 => ?_) (fun h38 => ?_)
            · first | exact stepN (by omega) | (exfalso; omega)
            · first | exact stepY (by omega) | (exfalso; omega)
          · refine s12_31 ?_
            refine s12_32 ?_
            refine s12_36 ?_
            refine s12_37 rfl ?_
            refine s12_38 ⟨by omega, by omega⟩ (fun h38 => ?_) (fun h38 => ?_)
            · first | exact stepN (by omega) | (exfalso; omega)
            · first | exact stepY (by omega) | (exfalso; omega)
theorem c12 {v : Int} (hr : x_row r o) (hv : 0 ≤ v ∧ v ≤ 2147483647) (h0 : 0 ≤ g r 1) (h1 : g r 1 + 6 ≤ 120) (h : Q (.inl none) (x_vm (x_app r o (x_dk 6 0 v) g)) n) : x_V S 12 0 [some (.ref r), some (.int (I v)), none, none, none] [] (x_vm g) n Q := by
  refine s12_0 ?_
  refine s12_1 ?_
  refine s12_2 ?_
  refine s12_4 ?_
  exact l12 hr hv 6 (by omega) g 0 none (Or.inl rfl) h0 (by omega) h
end CR
