/-! 40.write: the reference's writer. -/
section MW
variable {S : Nat × (Nat → Int32)} {μ : xM} {g : Nat → Nat → Int} {n : Nat} {Q : xQ} {m : Bool} {k : Nat} {l : List Int}
/-- the memory in which the reference has written the list: into the peer's frame, or as its k-th frame sent -/
def mw (m : Bool) (k : Nat) (l : List Int) (g : Nat → Nat → Int) : Nat → Nat → Int := fun a i =>
  if a = 100 ∧ i = (if m = true then 2 else 18) then (l.length : Int)
  else if m = true ∧ a = 101 ∧ i < l.length then l.getD i 0
  else if m = false ∧ k < 20 ∧ a = 105 ∧ 120 * k ≤ i ∧ i < 120 * k + l.length then l.getD (i - 120 * k) 0
  else g a i
theorem mw_ot {a i : Nat} (h : ¬ (a = 100 ∧ (i = 2 ∨ i = 18))) (h1 : a ≠ 101) (h2 : a ≠ 105) : mw m k l g a i = g a i := by
  unfold mw
  rw [if_neg, if_neg, if_neg]
  · exact fun z => h2 z.2.2.1
  · exact fun z => h1 z.2.1
  · intro z
    have := z.2
    split at this <;> omega
theorem mw_sz : mw m k l g 100 (if m = true then 2 else 18) = l.length := by
  unfold mw
  rw [if_pos ⟨rfl, rfl⟩]
theorem mwt {a i : Nat} : mw true k l g a i = if a = 100 ∧ i = 2 then (l.length : Int) else if a = 101 ∧ i < l.length then l.getD i 0 else g a i := by
  unfold mw
  simp
theorem mwf {a i : Nat} : mw false k l g a i = if a = 100 ∧ i = 18 then (l.length : Int) else if k < 20 ∧ a = 105 ∧ 120 * k ≤ i ∧ i < 120 * k + l.length then l.getD (i - 120 * k) 0 else g a i := by
  unfold mw
  simp
theorem ylen_app {α : Type} {l : List α} {x : α} : (l ++ [x]).length = l.length + 1 := by
  rw [List.length_append]
  rfl
theorem mw_put_t {x : Int} : x_uf (x_uf (mw true k l g) 101 l.length x) 100 2 (l.length + 1) = mw true k (l ++ [x]) g := by
  funext a i
  rw [mwt (l := l ++ [x]), ylen_app]
  by_cases c : a = 100 ∧ i = 2
  · rw [if_pos c, c.1, c.2, x_uf_eq]
    rfl
  · rw [if_neg c, x_uf_ne c]
    by_cases c1 : a = 101 ∧ i = l.length
    · rw [if_pos (show a = 101 ∧ i < l.length + 1 by omega), c1.1, c1.2, x_uf_eq, ygd_app, if_neg (Nat.lt_irrefl _), if_pos rfl]
    · rw [x_uf_ne c1, mwt, if_neg c]
      by_cases c2 : a = 101 ∧ i < l.length
      · rw [if_pos c2, if_pos (show a = 101 ∧ i < l.length + 1 by omega), ygd_app, if_pos c2.2]
      · rw [if_neg c2, if_neg (show ¬ (a = 101 ∧ i < l.length + 1) by omega)]
theorem mw_put_f {x : Int} (hk : k < 20) : x_uf (x_uf (mw false k l g) 105 (120 * k + l.length) x) 100 18 (l.length + 1) = mw false k (l ++ [x]) g := by
  funext a i
  rw [mwf (l := l ++ [x]), ylen_app]
  by_cases c : a = 100 ∧ i = 18
  · rw [if_pos c, c.1, c.2, x_uf_eq]
    rfl
  · rw [if_neg c, x_uf_ne c]
    by_cases c1 : a = 105 ∧ i = 120 * k + l.length
    · rw [if_pos (show k < 20 ∧ a = 105 ∧ 120 * k ≤ i ∧ i < 120 * k + (l.length + 1) by omega), c1.1, c1.2, x_uf_eq, ygd_app, if_neg (by omega), if_pos (by omega)]
    · rw [x_uf_ne c1, mwf, if_neg c]
      by_cases c2 : k < 20 ∧ a = 105 ∧ 120 * k ≤ i ∧ i < 120 * k + l.length
      · rw [if_pos c2, if_pos (show k < 20 ∧ a = 105 ∧ 120 * k ≤ i ∧ i < 120 * k + (l.length + 1) by omega), ygd_app, if_pos (by omega)]
      · rw [if_neg c2, if_neg (show ¬ (k < 20 ∧ a = 105 ∧ 120 * k ≤ i ∧ i < 120 * k + (l.length + 1)) by omega)]
theorem mw_far {l' : List Int} (hk : ¬ k < 20) (hl : l.length = l'.length) : mw false k l g = mw false k l' g := by
  funext a i
  rw [mwf, mwf, hl]
  by_cases c : a = 100 ∧ i = 18
  · rw [if_pos c, if_pos c]
  · rw [if_neg c, if_neg c, if_neg (fun z => hk z.1), if_neg (fun z => hk z.1)]
theorem mw_put_g {x : Int} (hk : ¬ k < 20) : x_uf (mw false k l g) 100 18 (l.length + 1) = mw false k (l ++ [x]) g := by
  funext a i
  rw [mwf (l := l ++ [x]), ylen_app]
  by_cases c : a = 100 ∧ i = 18
  · rw [if_pos c, c.1, c.2, x_uf_eq]
    rfl
  · rw [if_neg c, x_uf_ne c, mwf, if_neg c, if_neg (fun z => hk z.1), if_neg (fun z => hk z.1)]
/-- where the reference writes -/
def mM (g : Nat → Nat → Int) (m : Bool) (k : Nat) : Prop := g 100 38 = (if m = true then 1 else 0) ∧ g 100 15 = k ∧ k ≤ 1000000
theorem c87 {x : Int} (hm : mM g m k) (hl : l.length < 120) (h : Q (.inl none) (x_vm (mw m k (l ++ [x]) g)) n) : x_V S 87 0 [some (.ref 100), some (.int (I x))] [] (x_vm (mw m k l g)) n Q := by
  obtain ⟨h1, h2, h3⟩ := hm
  have e38 : mw m k l g 100 38 = if m = true then 1 else 0 := (mw_ot (by omega) (by omega) (by omega)).trans h1
  have e15 : mw m k l g 100 15 = k := (mw_ot (by omega) (by omega) (by omega)).trans h2
  have es := mw_sz (m := m) (k := k) (l := l) (g := g)
  cases m with
  | true =>
    rw [if_pos rfl] at e38 es
    refine s87_0 rfl ?_
    refine s87_1 (by first | assumption | rfl) (by first | assumption | (exact hpo _) | rfl | decide) (by first | assumption | decide | omega) ?_
    rw [e38]
    refine s87_4 ⟨by omega, by omega⟩ (fun h4 => ?_) (fun h4 => ?_)
    · exfalso; omega
    · refine s87_7 rfl ?_
      refine s87_8 (by first | assumption | rfl) (by first | assumption | (exact hpo _) | rfl | decide) ?_
      refine s87_11 rfl ?_
      refine s87_12 (by first | assumption | rfl) (by first | assumption | (exact hpo _) | rfl | decide) (by first | assumption | decide | omega) ?_
      rw [es]
      refine s87_15 rfl ?_
      refine v_iast d87_16 (by first | assumption | rfl) (by omega) (by omega) (by omega) (by first | assumption | (exact hpo _) | rfl | decide) (by first | assumption | decide | omega) ?_
      rw [Int.toNat_natCast]
      refine s87_17 rfl ?_
      refine s87_18 rfl ?_
      refine s87_19 (by first | assumption | rfl) (by first | assumption | (exact hpo _) | rfl | decide) (by first | assumption | decide | omega) ?_
      rw [show x_uf (mw true k l g) 101 l.length x 100 2 = l.length by rw [x_uf_ne (by omega)]; exact es]
      refine s87_22 ?_
      refine s87_23 ?_
      refine s87_24 (by first | assumption | rfl) (by first | assumption | (exact hpo _) | rfl | decide) (by first | assumption | decide | omega) ?_
      refine s87_27 ?_
      refine s87_67 (st := []) ?_
      rw [mw_put_t]
      exact h
  | false =>
    rw [if_neg (by decide)] at e38 es
    refine s87_0 rfl ?_
    refine s87_1 (by first | assumption | rfl) (by first | assumption | (exact hpo _) | rfl | decide) (by first | assumption | decide | omega) ?_
    rw [e38]
    refine s87_4 ⟨by omega, by omega⟩ (fun h4 => ?_) (fun h4 => ?_)
    · refine s87_30 rfl ?_
      refine s87_31 (by first | assumption | rfl) (by first | assumption | (exact hpo _) | rfl | decide) (by first | assumption | decide | omega) ?_
      rw [e15]
      refine s87_34 ?_
      refine s87_36 ⟨by omega, by omega⟩ ⟨by omega, by omega⟩ (fun h36 => ?_) (fun h36 => ?_)
      · refine s87_57 rfl ?_
        refine s87_58 rfl ?_
        refine s87_59 (by first | assumption | rfl) (by first | assumption | (exact hpo _) | rfl | decide) (by first | assumption | decide | omega) ?_
        first
          | rw [es]
          | rw [show x_uf (mw false k l g) 105 (120 * k + l.length) x 100 18 = l.length by rw [x_uf_ne (by omega)]; exact es]
        refine s87_62 ?_
        refine s87_63 ?_
        refine s87_64 (by first | assumption | rfl) (by first | assumption | (exact hpo _) | rfl | decide) (by first | assumption | decide | omega) ?_
        refine s87_67 (st := []) ?_
        first
          | (rw [mw_put_f (by omega)]; exact h)
          | (rw [mw_put_g (by omega)]; exact h)
      · refine s87_39 rfl ?_
        refine s87_40 (by first | assumption | rfl) (by first | assumption | (exact hpo _) | rfl | decide) ?_
        refine s87_43 ?_
        refine s87_45 rfl ?_
        refine s87_46 (by first | assumption | rfl) (by first | assumption | (exact hpo _) | rfl | decide) (by first | assumption | decide | omega) ?_
        rw [e15]
        refine s87_49 ?_
        refine s87_50 rfl ?_
        refine s87_51 (by first | assumption | rfl) (by first | assumption | (exact hpo _) | rfl | decide) (by first | assumption | decide | omega) ?_
        rw [es]
        refine s87_54 ?_
        refine s87_55 rfl ?_
        refine v_iast d87_56 (by first | assumption | rfl) (by omega) (by omega) (by omega) (by first | assumption | (exact hpo _) | rfl | decide) (by first | assumption | decide | omega) ?_
        rw [show ((120 : Int) * (k : Int) + (l.length : Int)).toNat = 120 * k + l.length by omega]
        refine s87_57 rfl ?_
        refine s87_58 rfl ?_
        refine s87_59 (by first | assumption | rfl) (by first | assumption | (exact hpo _) | rfl | decide) (by first | assumption | decide | omega) ?_
        first
          | rw [es]
          | rw [show x_uf (mw false k l g) 105 (120 * k + l.length) x 100 18 = l.length by rw [x_uf_ne (by omega)]; exact es]
        refine s87_62 ?_
        refine s87_63 ?_
        refine s87_64 (by first | assumption | rfl) (by first | assumption | (exact hpo _) | rfl | decide) (by first | assumption | decide | omega) ?_
        refine s87_67 (st := []) ?_
        first
          | (rw [mw_put_f (by omega)]; exact h)
          | (rw [mw_put_g (by omega)]; exact h)
    · exfalso; omega
theorem pw10 : ∀ j : Nat, j ≤ 6 → 1 ≤ (10 : Int) ^ j ∧ (10 : Int) ^ j ≤ 1000000 := by decide
theorem dk_skip {v : Int} {j : Nat} (h0 : 0 ≤ v) (hv : v / 10 ^ j ≤ 9) (hj : j = 0 ∨ 10 ^ j ≤ v) (h5 : j ≤ 5) : ∀ d : Nat, j + 1 + d ≤ 6 → x_dk (j + 1 + d) 0 v = x_dk (j + 1) 1 v
  | 0, _ => by
    have p := pw10 j (by omega)
    rw [show x_dk (j + 1) 1 v = (48 + v / 10 ^ j % 10) :: x_dk j 1 v from by rw [x_dk, if_pos (Or.inl (by decide))], Nat.add_zero, x_dk, if_pos]
    rcases hj with q | q
    · exact Or.inr (Or.inr q)
    · right; left
      have h1 : 1 ≤ v / 10 ^ j := (Int.le_ediv_iff_mul_le (by omega)).2 (by omega)
      omega
  | d + 1, hd => by
    have p := pw10 j (by omega)
    have lt : v < 10 ^ (j + 1 + d) := by
      have h1 : v < 10 * 10 ^ j := by
        have := (Int.ediv_lt_iff_lt_mul (a := v) (b := 10) (c := 10 ^ j) (by omega)).1 (by omega)
        exact this
      have h2 : (10 : Int) * 10 ^ j = 10 ^ (j + 1) := by rw [Int.pow_succ]; omega
      have h3 : ∀ d j : Nat, j + 1 + d ≤ 6 → (10 : Int) ^ (j + 1) ≤ 10 ^ (j + 1 + d) := by
        intro d j hdj
        have : ∀ a : Nat, a ≤ 6 → ∀ b : Nat, b ≤ 6 → a ≤ b → (10 : Int) ^ a ≤ 10 ^ b := by decide
        exact this _ (by omega) _ (by omega) (by omega)
      have := h3 d j (by omega)
      omega
    rw [show j + 1 + (d + 1) = (j + 1 + d) + 1 by omega, x_dk, if_neg, dk_skip h0 hv hj h5 d (by omega)]
    intro z
    rw [Int.ediv_eq_zero_of_lt h0 lt] at z
    omega
/-- digits of the reference -/
theorem l88 {v : Int} (hm : mM g m k) (hv : 0 ≤ v ∧ v ≤ 999999) (w2 : Option Value) : ∀ (j : Nat) (l : List Int), j ≤ 6 → l.length + j ≤ 120 → Q (.inl none) (x_vm (mw m k (l ++ x_dk j 1 v) g)) n → x_V S 88 20 [some (.ref 100), some (.int (I v)), w2, some (.int (I (x_u j)))] [] (x_vm (mw m k l g)) n Q := by
  intro j
  induction j with
  | zero =>
    intro l h1 h2 h
    rw [x_dk, List.append_nil] at h
    have e : x_u 0 = 0 := rfl
    rw [e]
    refine s88_20 rfl ?_
    refine s88_21 ⟨by omega, by omega⟩ (fun h21 => ?_) (fun h21 => ?_)
    · refine s88_45 (st := []) ?_
      exact h
    · exfalso; omega
  | succ j ih =>
    intro l h1 h2 h
    have u1 := x_u_b (j + 1) h1
    have u2 := x_u_s j (by omega)
    have p := pw10 j (by omega)
    have dv : 0 ≤ v / x_u (j + 1) ∧ v / x_u (j + 1) ≤ v := ⟨Int.ediv_nonneg hv.1 u1.1, Int.ediv_le_self _ hv.1⟩
    rw [show x_dk (j + 1) 1 v = (48 + v / 10 ^ j % 10) :: x_dk j 1 v from by rw [x_dk, if_pos (Or.inl (by decide))]] at h
    rw [show l ++ (48 + v / 10 ^ j % 10) :: x_dk j 1 v = (l ++ [48 + v / 10 ^ j % 10]) ++ x_dk j 1 v by simp] at h
    have u3 := u1.2.2 (by omega)
    refine s88_20 rfl ?_
    refine s88_21 ⟨by omega, by omega⟩ (fun h21 => ?_) (fun h21 => ?_)
    · refine s88_45 (st := []) ?_
      exfalso; omega
    · refine s88_24 rfl ?_
      refine s88_25 ?_
      refine s88_27 rfl ?_
      refine s88_28 rfl ?_
      refine s88_29 ⟨by omega, by omega⟩ ⟨by omega, by omega⟩ (by omega) (by omega) ?_
      refine s88_30 ?_
      refine s88_32 ⟨by omega, by omega⟩ ⟨by omega, by omega⟩ (by omega) (by omega) ?_
      refine s88_33 ?_
      refine s88_34 (by first | assumption | rfl) (by simp) ?_
      rw [u2.2.1]
      refine c87 hm (by omega) ?_
      refine ⟨_, rfl, ?_⟩
      refine s88_37 rfl ?_
      refine s88_38 ?_
      refine s88_40 ⟨by omega, by omega⟩ ⟨by omega, by omega⟩ (by omega) (by omega) ?_
      rw [show (10 : Int) ^ j / 10 = x_u j by rw [← u2.2.1]; exact u2.1]
      refine s88_41 ?_
      refine s88_42 ?_
      exact ih _ (by omega) (by rw [List.length_append]; simp only [List.length_cons, List.length_nil]; omega) h
theorem k88 {v : Int} (hm : mM g m k) (hv : 0 ≤ v ∧ v ≤ 999999) (hl : l.length + 6 ≤ 120) (h : Q (.inl none) (x_vm (mw m k (l ++ x_dk 6 0 v) g)) n) : ∀ (d j : Nat) (w : Option Value), j + d = 5 → (j = 0 ∨ 10 ^ j ≤ v) → x_V S 88 2 [some (.ref 100), some (.int (I v)), some (.int (I (10 ^ j))), w] [] (x_vm (mw m k l g)) n Q := by
  intro d
  induction d with
  | zero =>
    intro j w hj hp
    have e : j = 5 := by omega
    subst e
    have p : (10 : Int) ^ 5 = 100000 := by decide
    rw [p] at hp ⊢
    refine s88_2 rfl ?_
    refine s88_3 rfl ?_
    refine s88_4 ⟨by omega, by omega⟩ ⟨by omega, by omega⟩ (by omega) (by omega) ?_
    refine s88_5 ?_
    refine s88_7 ⟨by omega, by omega⟩ ⟨by omega, by omega⟩ (fun h7 => ?_) (fun h7 => ?_)
    · refine s88_18 rfl ?_
      refine s88_19 ?_
      rw [show (100000 : Int) = x_u 6 by decide]
      refine l88 hm hv _ 6 l (by omega) (by omega) ?_
      rw [show x_dk 6 1 v = x_dk 6 0 v from (dk_skip (j := 5) hv.1 (by rw [p]; omega) (Or.inr (by rw [p]; omega)) (by omega) 0 (by omega)).symm]
      exact h
    · exfalso; omega
  | succ d ih =>
    intro j w hj hp
    have p := pw10 j (by omega)
    have p2 := pw10 (j + 1) (by omega)
    have ps : (10 : Int) ^ j * 10 = 10 ^ (j + 1) := (Int.pow_succ _ _).symm
    have dv : 0 ≤ v / 10 ^ j ∧ v / 10 ^ j ≤ v := ⟨Int.ediv_nonneg hv.1 (by omega), Int.ediv_le_self _ hv.1⟩
    have hle : v / 10 ^ j ≤ 9 ∨ 10 ^ (j + 1) ≤ v := by
      by_cases c : v / 10 ^ j ≤ 9
      · exact Or.inl c
      · right
        have := (Int.le_ediv_iff_mul_le (a := 10) (b := v) (c := 10 ^ j) (by omega)).1 (by omega)
        omega
    have hu : x_u (j + 1) = 10 ^ j := (x_u_s j (by omega)).2.1
    have hsk := fun q => dk_skip (v := v) (j := j) hv.1 q hp (by omega) (5 - j) (by omega)
    rw [show j + 1 + (5 - j) = 6 by omega] at hsk
    generalize (10 : Int) ^ j = u at p ps dv hle hu hsk
    refine s88_2 rfl ?_
    refine s88_3 rfl ?_
    refine s88_4 ⟨by omega, by omega⟩ ⟨by omega, by omega⟩ (by omega) (by omega) ?_
    refine s88_5 ?_
    refine s88_7 ⟨by omega, by omega⟩ ⟨by omega, by omega⟩ (fun h7 => ?_) (fun h7 => ?_)
    · refine s88_18 rfl ?_
      refine s88_19 ?_
      rw [← hu]
      refine l88 hm hv _ (j + 1) l (by omega) (by omega) ?_
      rw [← hsk (by omega)]
      exact h
    · refine s88_10 rfl ?_
      refine s88_11 ?_
      refine s88_13 ?_
      refine s88_14 ?_
      refine s88_15 ?_
      rw [ps]
      exact ih (j + 1) _ (by omega) (Or.inr (by omega))
theorem c88 {v : Int} (hm : mM g m k) (hv : 0 ≤ v ∧ v ≤ 999999) (hl : l.length + 6 ≤ 120) (h : Q (.inl none) (x_vm (mw m k (l ++ x_dk 6 0 v) g)) n) : x_V S 88 0 [some (.ref 100), some (.int (I v)), none, none] [] (x_vm (mw m k l g)) n Q := by
  refine s88_0 ?_
  refine s88_1 ?_
  exact k88 hm hv hl h 5 0 none rfl (Or.inl rfl)
end MW
