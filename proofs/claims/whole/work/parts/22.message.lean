/-! 22.message: contracts of Message: what a frame is as bytes, and its writing. -/
section CM
variable {S : Nat × (Nat → Int32)} {μ : xM} {g : Nat → Nat → Int} {n r o a v : Nat} {Q : xQ}
/-- the memory with the row holding just these bytes -/
def x_rw (r o : Nat) (l : List Int) (g : Nat → Nat → Int) : Nat → Nat → Int := fun a i => if a = r ∧ i = 1 then (l.length : Int) else if a = o ∧ i < l.length then l.getD i 0 else g a i
theorem x_rw_0 (r o : Nat) (g : Nat → Nat → Int) : x_uf g r 1 0 = x_rw r o [] g := by
  funext a i
  unfold x_uf x_rw
  by_cases h : a = r ∧ i = 1
  · rw [if_pos h, if_pos h]; rfl
  · rw [if_neg h, if_neg h, if_neg (fun q => by simp at q)]
theorem x_rw_sz (r o : Nat) (l : List Int) (g : Nat → Nat → Int) : x_rw r o l g r 1 = l.length := by
  unfold x_rw
  rw [if_pos ⟨rfl, rfl⟩]
theorem x_rw_at (h : r ≠ o) {l : List Int} {j : Nat} (hj : j < l.length) (g : Nat → Nat → Int) : x_rw r o l g o j = l.getD j 0 := by
  unfold x_rw
  rw [if_neg (fun q => h q.1.symm), if_pos ⟨rfl, hj⟩]
theorem x_rw_ot {i : Nat} (h1 : a ≠ r) (h2 : a ≠ o) (l : List Int) (g : Nat → Nat → Int) : x_rw r o l g a i = g a i := by
  unfold x_rw
  rw [if_neg (fun q => h1 q.1), if_neg (fun q => h2 q.1)]
theorem x_rw_app (h : r ≠ o) (l l2 : List Int) (g : Nat → Nat → Int) : x_app r o l2 (x_rw r o l g) = x_rw r o (l ++ l2) g := by
  induction l2 generalizing l with
  | nil => simp [x_app]
  | cons x l2 ih =>
    simp only [x_app]
    rw [x_rw_sz, show l ++ x :: l2 = (l ++ [x]) ++ l2 by simp, ← ih (l ++ [x])]
    congr 1
    funext a i
    unfold x_uf x_rw
    by_cases h1 : a = r ∧ i = 1
    · rw [if_pos h1, if_pos h1]
      simp
    · simp only [h1, if_false, Int.toNat_natCast, List.length_append, List.length_cons, List.length_nil]
      by_cases h2 : a = o ∧ i = l.length
      · rw [if_pos h2, if_pos ⟨h2.1, by omega⟩, h2.2]
        simp
      · rw [if_neg h2]
        by_cases h3 : a = o ∧ i < l.length
        · rw [if_pos h3, if_pos ⟨h3.1, by omega⟩]
          simp only [List.getD_eq_getElem?_getD]
          rw [List.getElem?_append_left h3.2]
        · rw [if_neg h3, if_neg (fun q => by
            have q2 := q.2
            rcases Nat.lt_or_ge i l.length with c | c
            · exact h3 ⟨q.1, c⟩
            · exact h2 ⟨q.1, by omega⟩)]
theorem x_rw_set (h : r ≠ o) {l : List Int} {j : Nat} (hj : j < l.length) (x : Int) (g : Nat → Nat → Int) : x_uf (x_rw r o l g) o j x = x_rw r o (l.set j x) g := by
  funext a i
  unfold x_uf x_rw
  by_cases h2 : a = o ∧ i = j
  · rw [if_pos h2, if_neg (fun q => h (q.1.symm.trans h2.1)), if_pos (by rw [h2.2]; exact ⟨h2.1, by simpa using hj⟩), h2.2]
    simp [List.getD_eq_getElem?_getD, hj]
  · rw [if_neg h2]
    by_cases h1 : a = r ∧ i = 1
    · rw [if_pos h1, if_pos h1]; simp
    · rw [if_neg h1, if_neg h1]
      by_cases h3 : a = o ∧ i < l.length
      · rw [if_pos h3, if_pos (by simpa using h3)]
        simp only [List.getD_eq_getElem?_getD]
        rw [List.getElem?_set_ne (fun q => h2 ⟨h3.1, q.symm⟩)]
      · rw [if_neg h3, if_neg (by simpa using h3)]
theorem x_dk3 {v : Int} (h0 : 0 ≤ v) (h1 : v < 1000) : (x_dk 6 0 v).length ≤ 3 := by
  have e : x_dk 6 0 v = x_dk 3 0 v := by
    rw [x_dk, if_neg (by simp; omega), x_dk, if_neg (by simp; omega), x_dk, if_neg (by simp; omega)]
  rw [e]
  exact x_dk_len 3 0 v
theorem I_ofNat (N : Nat) : Int32.ofNat N = I N := by
  unfold I
  exact Int32.ofInt_eq_ofNat.symm
theorem v_alen {k pc N b kd : Nat} {L : List (Option Value)} {st : List Value} (hd : decode (mC k) pc = .ok (.arraylength, 1)) (hs : x_sh b = (kd, N)) (hkd : 100 ≤ kd ∧ kd < 105) (h : x_V S k (pc + 1) L (.int (I N) :: st) μ n Q) : x_V S k pc L (.ref b :: st) μ n Q :=
  x_alen hd hs hkd (I_ofNat N) h
/-- a message's cells -/
def x_msg (a v : Nat) : Prop := x_sh a = (3, 4) ∧ x_pt a 3 = some (.ref v) ∧ (∀ i, i < 3 → x_pt a i = none) ∧ a ≠ x_out ∧ x_sh v = (100, 4) ∧ (∀ i, x_pt v i = none) ∧ v ≠ x_out ∧ a ≠ v
theorem x_msg6 : x_msg 6 7 := ⟨rfl, rfl, by decide, by decide, rfl, fun _ => rfl, by decide, by decide⟩
theorem x_msgk : ∀ k, k < 21 → x_msg (13 + 2 * k) (14 + 2 * k) := by
  intro k hk
  have h1 : (13 + 2 * k) % 2 = 1 := by omega
  have h2 : (14 + 2 * k) % 2 = 0 := by omega
  refine ⟨?_, ?_, ?_, ?_, ?_, ?_, ?_, ?_⟩
  · unfold x_sh
    rw [if_neg (by omega), if_neg (by omega), if_pos (by omega), if_pos h1]
  · unfold x_pt
    rw [if_neg (by omega), if_neg (by omega), if_pos (by omega), if_pos ⟨h1, rfl⟩]
    rw [show 13 + 2 * k + 1 = 14 + 2 * k by omega]
  · intro i hi
    unfold x_pt
    rw [if_neg (by omega), if_neg (by omega), if_pos (by omega), if_neg (by omega)]
  · show 13 + 2 * k ≠ 115
    omega
  · unfold x_sh
    rw [if_neg (by omega), if_neg (by omega), if_pos (by omega), if_neg (by omega)]
  · intro i
    unfold x_pt
    rw [if_neg (by omega), if_neg (by omega), if_pos (by omega), if_neg (by omega)]
  · show 14 + 2 * k ≠ 115
    omega
  · omega
def x_bg (a : Nat) (t m d : Int) (g : Nat → Nat → Int) : Nat → Nat → Int := x_uf (x_uf (x_uf g a 0 t) a 1 m) a 2 d
def x_say (v : Nat) (p q u w : Int) (g : Nat → Nat → Int) : Nat → Nat → Int := x_uf (x_uf (x_uf (x_uf g v 0 p) v 1 q) v 2 u) v 3 w
theorem c22 {t m d : Int} (hm : x_msg a v) (hd : d = 0 ∨ d = 1) (h : Q (.inl none) (x_vm (x_bg a t m d g)) n) : x_V S 22 0 [some (.ref a), some (.int (I t)), some (.int (I m)), some (.int (I d))] [] (x_vm g) n Q := by
  obtain ⟨hm1, hm2, hm3, hm4, hm5, hpo, hm6, hm7⟩ := hm
  have hp0 := hm3 0 (by omega)
  have hp1 := hm3 1 (by omega)
  have hp2 := hm3 2 (by omega)
  refine s22_0 rfl ?_
  refine s22_1 rfl ?_
  refine s22_2 (by first | assumption | rfl) (by first | assumption | (exact hpo _) | rfl | decide) (by first | assumption | decide | omega) ?_
  refine s22_5 rfl ?_
  refine s22_6 rfl ?_
  refine s22_7 (by first | assumption | rfl) (by first | assumption | (exact hpo _) | rfl | decide) (by first | assumption | decide | omega) ?_
  refine s22_10 rfl ?_
  refine s22_11 rfl ?_
  refine s22_12 (by first | assumption | rfl) (by omega) (by first | assumption | (exact hpo _) | rfl | decide) (by first | assumption | decide | omega) ?_
  refine s22_15 (st := []) ?_
  exact h
theorem c23 {p q u w : Int} (hm : x_msg a v) (h : Q (.inl none) (x_vm (x_say v p q u w g)) n) : x_V S 23 0 [some (.ref a), some (.int (I p)), some (.int (I q)), some (.int (I u)), some (.int (I w))] [] (x_vm g) n Q := by
  obtain ⟨hm1, hm2, hm3, hm4, hm5, hpo, hm6, hm7⟩ := hm
  have hp0 := hm3 0 (by omega)
  have hp1 := hm3 1 (by omega)
  have hp2 := hm3 2 (by omega)
  refine s23_0 rfl ?_
  refine s23_1 (by first | assumption | rfl) (by first | assumption | (exact hpo _) | rfl | decide) ?_
  refine s23_4 ?_
  refine s23_5 rfl ?_
  refine v_iast d23_6 (by first | assumption | rfl) (by omega) (by omega) (by omega) (by first | assumption | (exact hpo _) | rfl | decide) (by first | assumption | decide | omega) ?_
  refine s23_7 rfl ?_
  refine s23_8 (by first | assumption | rfl) (by first | assumption | (exact hpo _) | rfl | decide) ?_
  refine s23_11 ?_
  refine s23_12 rfl ?_
  refine v_iast d23_13 (by first | assumption | rfl) (by omega) (by omega) (by omega) (by first | assumption | (exact hpo _) | rfl | decide) (by first | assumption | decide | omega) ?_
  refine s23_14 rfl ?_
  refine s23_15 (by first | assumption | rfl) (by first | assumption | (exact hpo _) | rfl | decide) ?_
  refine s23_18 ?_
  refine s23_19 rfl ?_
  refine v_iast d23_20 (by first | assumption | rfl) (by omega) (by omega) (by omega) (by first | assumption | (exact hpo _) | rfl | decide) (by first | assumption | decide | omega) ?_
  refine s23_21 rfl ?_
  refine s23_22 (by first | assumption | rfl) (by first | assumption | (exact hpo _) | rfl | decide) ?_
  refine s23_25 ?_
  refine s23_26 rfl ?_
  refine v_iast d23_28 (by first | assumption | rfl) (by omega) (by omega) (by omega) (by first | assumption | (exact hpo _) | rfl | decide) (by first | assumption | decide | omega) ?_
  refine s23_29 (st := []) ?_
  exact h
theorem c24 (hm : x_msg a v) (hb : ib (g v 1)) (h : Q (.inl (some (.int (I (if 0 < g v 1 then 1 else 0))))) (x_vm g) n) : x_V S 24 0 [some (.ref a)] [] (x_vm g) n Q := by
  obtain ⟨hm1, hm2, hm3, hm4, hm5, hpo, hm6, hm7⟩ := hm
  have hp0 := hm3 0 (by omega)
  have hp1 := hm3 1 (by omega)
  have hp2 := hm3 2 (by omega)
  obtain ⟨b1, b2⟩ := hb
  refine s24_0 rfl ?_
  refine s24_1 (by first | assumption | rfl) (by first | assumption | (exact hpo _) | rfl | decide) ?_
  refine s24_4 ?_
  refine v_iald d24_5 (by first | assumption | rfl) (by omega) (by omega) (by omega) (by first | assumption | (exact hpo _) | rfl | decide) (by first | assumption | decide | omega) ?_
  refine s24_6 ⟨by first | omega | exact b1, by first | omega | exact b2⟩ (fun h6 => ?_) (fun h6 => ?_)
  · refine s24_13 ?_
    refine s24_14 (st := []) (by omega) ?_
    first | (rw [if_pos (by first | omega | assumption)] at h; exact h) | (rw [if_neg (by first | omega | (intro q; have q2 := Int.lt_of_lt_of_le q (by assumption); omega))] at h; exact h)
  · refine s24_9 ?_
    refine s24_10 ?_
    refine s24_14 (st := []) (by omega) ?_
    first | (rw [if_pos (by first | omega | assumption)] at h; exact h) | (rw [if_neg (by first | omega | (intro q; have q2 := Int.lt_of_lt_of_le q (by assumption); omega))] at h; exact h)
/-- a field of a type's own, as bytes -/
def x_of (t : Int) (vals : Nat → Int) (i : Nat) : List Int := if x_tg t i = 123 then x_chf (x_tg t i) (if 0 < vals 1 then 89 else 78) else if x_tg t i = 39 then x_chf (x_tg t i) (vals i) else if vals i = -1 then [] else x_nf (x_tg t i) (vals i)
def x_owl (t : Int) (vals : Nat → Int) : Nat → Nat → List Int
  | 0, _ => []
  | d + 1, i => x_of t vals i ++ x_owl t vals d (i + 1)
theorem x_tg_b (t i : Int) : 0 ≤ x_tg t i ∧ x_tg t i ≤ 200 := by
  unfold x_tg
  split
  · omega
  · exact x_rowsL_b _
theorem x_of_len (t : Int) (vals : Nat → Int) (i : Nat) : (x_of t vals i).length ≤ 11 := by
  have h1 := x_tg_b t i
  have h2 := x_dk3 h1.1 (by omega)
  have h3 := x_dk_len 6 0 (vals i)
  unfold x_of
  split
  · simp only [x_chf, List.length_append, List.length_cons, List.length_nil]; omega
  · split
    · simp only [x_chf, List.length_append, List.length_cons, List.length_nil]; omega
    · split
      · simp
      · simp only [x_nf, List.length_append, List.length_cons, List.length_nil]; omega
theorem l26 (hr : x_row r o) (hm : x_msg a v) (hd : a ≠ r ∧ a ≠ o ∧ v ≠ r ∧ v ≠ o) (ht : ib (g a 0)) (hv : ∀ i, i < 4 → -1 ≤ g v i ∧ g v i ≤ 999999) {c : Nat} (hc : c ≤ 4) : ∀ (d i : Nat) (l : List Int) (x4 : Option Value), i + d = c → l.length + 11 * d ≤ 106 → Q (.inl none) (x_vm (x_rw r o (l ++ x_owl (g a 0) (g v) d i) g)) n →
    x_V S 26 10 [some (.ref a), some (.ref r), some (.int (I c)), some (.int (I i)), x4] [] (x_vm (x_rw r o l g)) n Q := by
  have hmm := hm
  have hrr := hr
  obtain ⟨hm1, hm2, hm3, hm4, hm5, hpo, hm6, hm7⟩ := hm
  have hp0 := hm3 0 (by omega)
  have hp1 := hm3 1 (by omega)
  have hp2 := hm3 2 (by omega)
  obtain ⟨hr1, hr2, hr3, hr4, hr5, hpr, hr6, hr7⟩ := hr
  obtain ⟨hd1, hd2, hd3, hd4⟩ := hd
  have ea : ∀ l i, x_rw r o l g a i = g a i := fun l i => x_rw_ot hd1 hd2 l g
  have ev : ∀ l i, x_rw r o l g v i = g v i := fun l i => x_rw_ot hd3 hd4 l g
  obtain ⟨ht1, ht2⟩ := ht
  intro d
  induction d with
  | zero =>
    intro i l x4 hi hl h
    simp only [x_owl, List.append_nil] at h
    refine s26_10 rfl ?_
    refine s26_11 rfl ?_
    refine s26_12 ⟨by omega, by omega⟩ ⟨by omega, by omega⟩ (fun h12 => ?_) (fun h12 => ?_)
    · refine s26_114 (st := []) ?_
      exact h
    · exfalso; omega
  | succ d ih =>
    intro i l x4 hi hl h
    have hvi := hv i (by omega)
    have hv1 := hv 1 (by omega)
    have htg := x_tg_b (g a 0) i
    have hol := x_of_len (g a 0) (g v) i
    have hdk := x_dk3 htg.1 (by omega)
    have fin : x_V S 26 108 [some (.ref a), some (.ref r), some (.int (I c)), some (.int (I i)), some (.int (I (x_tg (g a 0) i)))] [] (x_vm (x_rw r o (l ++ x_of (g a 0) (g v) i) g)) n Q := by
      refine s26_108 rfl ?_
      refine s26_111 ?_
      exact ih (i + 1) (l ++ x_of (g a 0) (g v) i) _ (by omega) (by simp only [List.length_append]; omega) (by rw [List.append_assoc]; exact h)
    unfold x_of at fin
    refine s26_10 rfl ?_
    refine s26_11 rfl ?_
    refine s26_12 ⟨by omega, by omega⟩ ⟨by omega, by omega⟩ (fun h12 => ?_) (fun h12 => ?_)
    · exfalso; omega
    · refine s26_15 rfl ?_
      refine s26_16 rfl ?_
      refine s26_17 (by first | assumption | rfl) (by first | assumption | (exact hpo _) | rfl | decide) ?_
      refine v_alen d26_20 (by first | assumption | rfl) (by decide) ?_
      refine s26_21 ⟨by omega, by omega⟩ ⟨by omega, by omega⟩ (fun h21 => ?_) (fun h21 => ?_)
      · exfalso; omega
      · refine s26_24 rfl ?_
        refine s26_25 (by first | assumption | rfl) (by first | assumption | (exact hpo _) | rfl | decide) (by first | assumption | decide | omega) ?_
        rw [ea]
        refine s26_28 rfl ?_
        refine s26_29 (by simp) ?_
        refine c3 ⟨by omega, by omega⟩ ⟨by omega, by omega⟩ ?_
        refine ⟨_, rfl, ?_⟩
        refine s26_32 ?_
        refine s26_34 rfl ?_
        refine s26_36 ?_
        refine s26_38 ⟨by omega, by omega⟩ ⟨by omega, by omega⟩ (fun h38 => ?_) (fun h38 => ?_)
        · refine s26_64 rfl ?_
          refine s26_66 ?_
          refine s26_68 ⟨by omega, by omega⟩ ⟨by omega, by omega⟩ (fun h68 => ?_) (fun h68 => ?_)
          · refine s26_86 rfl ?_
            refine s26_87 (by first | assumption | rfl) (by first | assumption | (exact hpo _) | rfl | decide) ?_
            refine s26_90 rfl ?_
            refine v_iald d26_91 (by first | assumption | rfl) (by omega) (by omega) (by omega) (by first | assumption | (exact hpo _) | rfl | decide) (by first | assumption | decide | omega) ?_
            rw [ev, Int.toNat_natCast]
            refine s26_92 ?_
            refine s26_93 ⟨by omega, by omega⟩ ⟨by omega, by omega⟩ (fun h93 => ?_) (fun h93 => ?_)
            · first | exact fin | (rw [if_neg (by omega), if_neg (by omega), if_pos (by omega), List.append_nil] at fin; exact fin)
            · refine s26_96 rfl ?_
              refine s26_97 rfl ?_
              refine s26_99 rfl ?_
              refine s26_100 (by first | assumption | rfl) (by first | assumption | (exact hpo _) | rfl | decide) ?_
              refine s26_103 rfl ?_
              refine v_iald d26_104 (by first | assumption | rfl) (by omega) (by omega) (by omega) (by first | assumption | (exact hpo _) | rfl | decide) (by first | assumption | decide | omega) ?_
              rw [ev, Int.toNat_natCast]
              refine s26_105 (by first | assumption | rfl) (by simp) ?_
              refine c13 hrr ⟨by omega, by omega⟩ ⟨by omega, by omega⟩ (by simp only [x_rw_sz]; omega) (by simp only [x_rw_sz]; omega) ?_
              refine ⟨_, rfl, ?_⟩
              rw [x_rw_app hr7]
              rw [if_neg (by omega), if_neg (by omega), if_neg (by omega)] at fin
              first | exact fin | (rw [if_neg (by omega), if_neg (by omega), if_pos (by omega), List.append_nil] at fin; exact fin)
          · refine s26_71 rfl ?_
            refine s26_72 rfl ?_
            refine s26_74 rfl ?_
            refine s26_75 (by first | assumption | rfl) (by first | assumption | (exact hpo _) | rfl | decide) ?_
            refine s26_78 rfl ?_
            refine v_iald d26_79 (by first | assumption | rfl) (by omega) (by omega) (by omega) (by first | assumption | (exact hpo _) | rfl | decide) (by first | assumption | decide | omega) ?_
            rw [ev, Int.toNat_natCast]
            refine s26_80 (by first | assumption | rfl) (by simp) ?_
            refine c14 hrr ⟨by omega, by omega⟩ (by simp only [x_rw_sz]; omega) (by simp only [x_rw_sz]; omega) ?_
            refine ⟨_, rfl, ?_⟩
            rw [x_rw_app hr7]
            rw [if_neg (by omega), if_pos (by omega)] at fin
            refine s26_83 ?_
            first | exact fin | (rw [if_neg (by omega), if_neg (by omega), if_pos (by omega), List.append_nil] at fin; exact fin)
        · refine s26_41 rfl ?_
          refine s26_42 rfl ?_
          refine s26_44 rfl ?_
          refine s26_45 (by first | assumption | rfl) (by simp) ?_
          refine c24 hmm (by rw [ev]; exact ⟨by omega, by omega⟩) ?_
          refine ⟨_, rfl, ?_⟩
          rw [ev]
          refine s26_48 (by split <;> exact ⟨by omega, by omega⟩) (fun h48 => ?_) (fun h48 => ?_)
          · have e5 : ¬ 0 < g v 1 := fun q => by rw [if_pos q] at h48; omega
            refine s26_56 ?_
            refine s26_58 (by first | rfl | assumption) (by simp) ?_
            refine c14 hrr ⟨by omega, by omega⟩ (by simp only [x_rw_sz]; omega) (by simp only [x_rw_sz]; omega) ?_
            refine ⟨_, rfl, ?_⟩
            rw [x_rw_app hr7]
            rw [if_pos (by omega), if_neg e5] at fin
            exact s26_61 fin
          · have e5 : 0 < g v 1 := by
              by_cases q : 0 < g v 1
              · exact q
              · rw [if_neg q] at h48; exact absurd rfl h48
            refine s26_51 ?_
            refine s26_53 ?_
            refine s26_58 (by first | rfl | assumption) (by simp) ?_
            refine c14 hrr ⟨by omega, by omega⟩ (by simp only [x_rw_sz]; omega) (by simp only [x_rw_sz]; omega) ?_
            refine ⟨_, rfl, ?_⟩
            rw [x_rw_app hr7]
            rw [if_pos (by omega), if_pos e5] at fin
            exact s26_61 fin
theorem x_rwf_is (k : Nat) (t : Int) : x_rwf k t = -1 ∨ ∃ j : Nat, j < k ∧ x_rwf k t = 60 - 6 * ((j : Int) + 1) := by
  induction k with
  | zero => exact Or.inl rfl
  | succ k ih =>
    simp only [x_rwf]
    split
    · exact Or.inr ⟨k, by omega, rfl⟩
    · rcases ih with e | ⟨j, hj, e⟩
      · exact Or.inl e
      · exact Or.inr ⟨j, by omega, e⟩
theorem x_fc_d : ∀ j : Nat, j < 10 → 0 ≤ x_rowsL.getD ((60 : Int) - 6 * ((j : Int) + 1) + 1).toNat 0 ∧ x_rowsL.getD ((60 : Int) - 6 * ((j : Int) + 1) + 1).toNat 0 ≤ 4 := by decide
theorem x_fc_b (t : Int) : 0 ≤ x_fc t ∧ x_fc t ≤ 4 := by
  unfold x_fc
  rcases x_rwf_is 10 t with e | ⟨j, hj, e⟩
  · rw [if_pos e]; omega
  · rw [if_neg (by omega), e]
    exact x_fc_d j hj
theorem c26 (hr : x_row r o) (hm : x_msg a v) (hd : a ≠ r ∧ a ≠ o ∧ v ≠ r ∧ v ≠ o) (ht : ib (g a 0)) (hv : ∀ i, i < 4 → -1 ≤ g v i ∧ g v i ≤ 999999) {l : List Int} (hl : l.length ≤ 62)
    (h : Q (.inl none) (x_vm (x_rw r o (l ++ x_owl (g a 0) (g v) (x_fc (g a 0)).toNat 0) g)) n) : x_V S 26 0 [some (.ref a), some (.ref r), none, none, none] [] (x_vm (x_rw r o l g)) n Q := by
  have hmm := hm
  obtain ⟨hm1, hm2, hm3, hm4, hm5, hpo, hm6, hm7⟩ := hm
  have hp0 := hm3 0 (by omega)
  have hp1 := hm3 1 (by omega)
  have hp2 := hm3 2 (by omega)
  have hb := x_fc_b (g a 0)
  have e1 : x_rw r o l g a 0 = g a 0 := x_rw_ot hd.1 hd.2.1 l g
  have e2 : (((x_fc (g a 0)).toNat : Nat) : Int) = x_fc (g a 0) := by omega
  refine s26_0 rfl ?_
  refine s26_1 (by first | assumption | rfl) (by first | assumption | (exact hpo _) | rfl | decide) (by first | assumption | decide | omega) ?_
  rw [e1]
  refine s26_4 (by simp) ?_
  refine c2 ht ?_
  refine ⟨_, rfl, ?_⟩
  rw [← e2]
  refine s26_7 ?_
  refine s26_8 ?_
  refine s26_9 ?_
  exact l26 hr hmm hd ht hv (c := (x_fc (g a 0)).toNat) (by omega) (x_fc (g a 0)).toNat 0 l none (by omega) (by omega) h
end CM
