/-! 34.inbox: contracts of Inbox: a pure scanner over the bytes. -/
section CI
variable {S : Nat × (Nat → Int32)} {μ : xM} {g : Nat → Nat → Int} {n v : Nat} {Q : xQ} {f : Int → Int} {p : Int}
/-- the bytes as the scanner sees them -/
def zS (g : Nat → Nat → Int) (f : Int → Int) : Prop := (∀ p, x_atv g 4 5 p = f p) ∧ (0 ≤ g 4 1 ∧ g 4 1 ≤ 120) ∧ ∀ p, -1 ≤ f p ∧ f p ≤ 127
/-- only how far it is read has changed -/
def zA (g g' : Nat → Nat → Int) (q : Int) : Prop := g' 3 1 = q ∧ ∀ a i, a ≠ 3 → g' a i = g a i
theorem zA.tr {g1 g2 : Nat → Nat → Int} {q1 q2 : Int} (h1 : zA g g1 q1) (h2 : zA g1 g2 q2) : zA g g2 q2 := ⟨h2.1, fun a i h => (h2.2 a i h).trans (h1.2 a i h)⟩
theorem zA.u {q : Int} : zA g (x_uf g 3 1 q) q := ⟨x_uf_eq _ _ _ _, fun a i h => x_uf_ne (fun z => h z.1)⟩
theorem zS.eq {g' : Nat → Nat → Int} (h : zS g f) (e1 : g' 4 1 = g 4 1) (e2 : ∀ i, g' 5 i = g 5 i) : zS g' f := by
  refine ⟨fun p => ?_, by rw [e1]; exact h.2.1, h.2.2⟩
  rw [← h.1 p]
  unfold x_atv
  rw [e1, e2]
theorem zA.s {g' : Nat → Nat → Int} {q : Int} (h : zA g g' q) (hS : zS g f) : zS g' f := hS.eq (h.2 _ _ (by omega)) (fun i => h.2 _ _ (by omega))
theorem c36 (hS : zS g f) (hp : g 3 1 = p) (h0 : 0 ≤ p ∧ p ≤ 2000) (h : ∀ g', zA g g' (p + 1) → Q (.inl (some (.int (I (if f p = 1 then 1 else 0))))) (x_vm g') n) : x_V S 36 0 [some (.ref 3), none] [] (x_vm g) n Q := by
  have hb := hS.2.2 p
  refine s36_0 rfl ?_
  refine s36_1 (by first | assumption | rfl) (by first | assumption | (exact hpo _) | rfl | decide) ?_
  refine s36_4 rfl ?_
  refine s36_5 (by first | assumption | rfl) (by first | assumption | (exact hpo _) | rfl | decide) (by first | assumption | decide | omega) ?_
  refine s36_8 (by first | assumption | rfl) (by simp) ?_
  refine c9 x_row4 ⟨by omega, by omega⟩ hS.2.1 ?_
  refine ⟨_, rfl, ?_⟩
  rw [hp, hS.1 p]
  refine s36_11 ?_
  refine s36_12 ⟨by omega, by omega⟩ ⟨by omega, by omega⟩ (fun h12 => ?_) (fun h12 => ?_)
  · refine s36_19 ?_
    refine s36_20 ?_
    refine s36_21 rfl ?_
    refine s36_22 rfl ?_
    refine s36_23 (by first | assumption | rfl) (by first | assumption | (exact hpo _) | rfl | decide) (by first | assumption | decide | omega) ?_
    rw [hp]
    refine s36_26 ?_
    refine s36_27 ?_
    refine s36_28 (by first | assumption | rfl) (by first | assumption | (exact hpo _) | rfl | decide) (by first | assumption | decide | omega) ?_
    refine s36_31 rfl ?_
    refine s36_32 (st := []) (by omega) ?_
    first
      | (rw [if_pos (show f p = 1 by omega)] at h; exact h _ zA.u)
      | (rw [if_neg (show ¬ f p = 1 by omega)] at h; exact h _ zA.u)
  · refine s36_15 ?_
    refine s36_16 ?_
    refine s36_20 ?_
    refine s36_21 rfl ?_
    refine s36_22 rfl ?_
    refine s36_23 (by first | assumption | rfl) (by first | assumption | (exact hpo _) | rfl | decide) (by first | assumption | decide | omega) ?_
    rw [hp]
    refine s36_26 ?_
    refine s36_27 ?_
    refine s36_28 (by first | assumption | rfl) (by first | assumption | (exact hpo _) | rfl | decide) (by first | assumption | decide | omega) ?_
    refine s36_31 rfl ?_
    refine s36_32 (st := []) (by omega) ?_
    first
      | (rw [if_pos (show f p = 1 by omega)] at h; exact h _ zA.u)
      | (rw [if_neg (show ¬ f p = 1 by omega)] at h; exact h _ zA.u)
def zchr (f : Int → Int) (p : Int) : Int := if f (p + 1) = 1 then f p else -1
theorem zchr_b (hS : zS g f) (p : Int) : -1 ≤ zchr f p ∧ zchr f p ≤ 127 := by
  unfold zchr
  split
  · exact hS.2.2 p
  · omega
theorem c34 (hS : zS g f) (hp : g 3 1 = p) (h0 : 0 ≤ p ∧ p ≤ 1000) (h : ∀ g', zA g g' (p + 2) → Q (.inl (some (.int (I (zchr f p))))) (x_vm g') n) : x_V S 34 0 [some (.ref 3), none] [] (x_vm g) n Q := by
  have hb := hS.2.2 p
  unfold zchr at h
  have hz : (if f (p + 1) = 1 then (1 : Int) else 0) = 0 ∧ ¬ f (p + 1) = 1 ∨ (if f (p + 1) = 1 then (1 : Int) else 0) = 1 ∧ f (p + 1) = 1 := by
    split
    · exact Or.inr ⟨rfl, by assumption⟩
    · exact Or.inl ⟨rfl, by assumption⟩
  refine s34_0 rfl ?_
  refine s34_1 (by first | assumption | rfl) (by first | assumption | (exact hpo _) | rfl | decide) ?_
  refine s34_4 rfl ?_
  refine s34_5 (by first | assumption | rfl) (by first | assumption | (exact hpo _) | rfl | decide) (by first | assumption | decide | omega) ?_
  refine s34_8 (by first | assumption | rfl) (by simp) ?_
  refine c9 x_row4 ⟨by omega, by omega⟩ hS.2.1 ?_
  refine ⟨_, rfl, ?_⟩
  rw [hp, hS.1 p]
  refine s34_11 ?_
  refine s34_12 rfl ?_
  refine s34_13 rfl ?_
  refine s34_14 (by first | assumption | rfl) (by first | assumption | (exact hpo _) | rfl | decide) (by first | assumption | decide | omega) ?_
  rw [hp]
  refine s34_17 ?_
  refine s34_18 ?_
  refine s34_19 (by first | assumption | rfl) (by first | assumption | (exact hpo _) | rfl | decide) (by first | assumption | decide | omega) ?_
  refine s34_22 rfl ?_
  refine s34_23 (by first | assumption | rfl) (by simp) ?_
  refine c36 (p := p + 1) (zA.u.s hS) (x_uf_eq _ _ _ _) ⟨by omega, by omega⟩ (fun g2 hA2 => ?_)
  refine ⟨_, rfl, ?_⟩
  have hA := (zA.u (g := g)).tr hA2
  rw [show p + 1 + 1 = p + 2 by omega] at hA
  refine s34_26 ⟨by omega, by omega⟩ (fun h26 => ?_) (fun h26 => ?_)
  · refine s34_33 ?_
    refine s34_34 (st := []) ?_
    first
      | (rw [if_pos (show f (p + 1) = 1 by omega)] at h; exact h _ hA)
      | (rw [if_neg (show ¬ f (p + 1) = 1 by omega)] at h; exact h _ hA)
  · refine s34_29 rfl ?_
    refine s34_30 ?_
    refine s34_34 (st := []) ?_
    first
      | (rw [if_pos (show f (p + 1) = 1 by omega)] at h; exact h _ hA)
      | (rw [if_neg (show ¬ f (p + 1) = 1 by omega)] at h; exact h _ hA)
def zyn (f : Int → Int) (p : Int) : Int := if zchr f p = 89 then 1 else if zchr f p = 78 then 0 else -1
theorem c35 (hS : zS g f) (hp : g 3 1 = p) (h0 : 0 ≤ p ∧ p ≤ 1000) (h : ∀ g', zA g g' (p + 2) → Q (.inl (some (.int (I (zyn f p))))) (x_vm g') n) : x_V S 35 0 [some (.ref 3), none] [] (x_vm g) n Q := by
  have hb := zchr_b hS p
  unfold zyn at h
  refine s35_0 rfl ?_
  refine s35_1 (by first | assumption | rfl) (by simp) ?_
  refine c34 hS hp h0 (fun g2 hA2 => ?_)
  refine ⟨_, rfl, ?_⟩
  refine s35_4 ?_
  refine s35_5 rfl ?_
  refine s35_6 ?_
  refine s35_8 ⟨by omega, by omega⟩ ⟨by omega, by omega⟩ (fun h8 => ?_) (fun h8 => ?_)
  · refine s35_13 rfl ?_
    refine s35_14 ?_
    refine s35_16 ⟨by omega, by omega⟩ ⟨by omega, by omega⟩ (fun h16 => ?_) (fun h16 => ?_)
    · refine s35_23 ?_
      refine s35_24 (st := []) ?_
      first
        | (rw [if_pos (show zchr f p = 89 by omega)] at h; exact h _ hA2)
        | (rw [if_neg (show ¬ zchr f p = 89 by omega), if_pos (show zchr f p = 78 by omega)] at h; exact h _ hA2)
        | (rw [if_neg (show ¬ zchr f p = 89 by omega), if_neg (show ¬ zchr f p = 78 by omega)] at h; exact h _ hA2)
    · refine s35_19 ?_
      refine s35_20 ?_
      refine s35_24 (st := []) ?_
      first
        | (rw [if_pos (show zchr f p = 89 by omega)] at h; exact h _ hA2)
        | (rw [if_neg (show ¬ zchr f p = 89 by omega), if_pos (show zchr f p = 78 by omega)] at h; exact h _ hA2)
        | (rw [if_neg (show ¬ zchr f p = 89 by omega), if_neg (show ¬ zchr f p = 78 by omega)] at h; exact h _ hA2)
  · refine s35_11 ?_
    refine s35_12 (st := []) ?_
    first
      | (rw [if_pos (show zchr f p = 89 by omega)] at h; exact h _ hA2)
      | (rw [if_neg (show ¬ zchr f p = 89 by omega), if_pos (show zchr f p = 78 by omega)] at h; exact h _ hA2)
      | (rw [if_neg (show ¬ zchr f p = 89 by omega), if_neg (show ¬ zchr f p = 78 by omega)] at h; exact h _ hA2)
/-- up to d more digits: value, count, place -/
def znl (f : Int → Int) : Nat → Int → Int → Int → Int × Int × Int
  | 0, v, k, p => (v, k, p)
  | d + 1, v, k, p => if 48 ≤ f p ∧ f p ≤ 57 then znl f d (v * 10 + f p - 48) (k + 1) (p + 1) else (v, k, p)
def znum (f : Int → Int) (p : Int) : Int × Int := if 0 < (znl f 6 0 0 p).2.1 then (if f (znl f 6 0 0 p).2.2 = 1 then (znl f 6 0 0 p).1 else -1, (znl f 6 0 0 p).2.2 + 1) else (-1, (znl f 6 0 0 p).2.2)
theorem znl_b : ∀ (d : Nat) (v k p : Int), d ≤ 6 → k + d = 6 → 0 ≤ k → 0 ≤ v → v < 10 ^ (6 - d) → (0 ≤ (znl f d v k p).1 ∧ (znl f d v k p).1 ≤ 999999) ∧ (k ≤ (znl f d v k p).2.1 ∧ (znl f d v k p).2.1 ≤ 6) ∧ (znl f d v k p).2.2 - p = (znl f d v k p).2.1 - k
  | 0, v, k, p, h1, h2, h3, h4, h5 => by
    rw [znl]
    have : (10 : Int) ^ (6 - 0) = 1000000 := by decide
    simp only
    omega
  | d + 1, v, k, p, h1, h2, h3, h4, h5 => by
    have e : (10 : Int) ^ (6 - d) = 10 * 10 ^ (6 - (d + 1)) := by
      rw [show 6 - d = (6 - (d + 1)) + 1 by omega, Int.pow_succ]
      omega
    have e2 : (10 : Int) ^ (6 - (d + 1)) ≤ 1000000 := by
      have : ∀ j : Nat, j ≤ 6 → (10 : Int) ^ j ≤ 1000000 := by decide
      exact this _ (by omega)
    rw [znl]
    split
    · have := znl_b d (v * 10 + f p - 48) (k + 1) (p + 1) (by omega) (by omega) (by omega) (by omega) (by omega)
      omega
    · simp only
      omega
theorem znum_b (p : Int) (hp : 0 ≤ p) : (-1 ≤ (znum f p).1 ∧ (znum f p).1 ≤ 999999) ∧ (p ≤ (znum f p).2 ∧ (znum f p).2 ≤ p + 7) := by
  have h := znl_b (f := f) 6 0 0 p (by omega) (by omega) (by omega) (by omega) (by decide)
  unfold znum
  split
  · simp only
    split <;> omega
  · simp only
    omega
theorem l33 (hS0 : zS g f) (h0 : 0 ≤ p ∧ p ≤ 1000) (h : ∀ g', zA g g' (znum f p).2 → Q (.inl (some (.int (I (znum f p).1)))) (x_vm g') n) :
    ∀ (d : Nat) (g1 : Nat → Nat → Int) (v k q : Int), d ≤ 6 → k + d = 6 → 0 ≤ k → 0 ≤ v → v < 10 ^ (6 - d) → q - p = k → zA g g1 q → znl f 6 0 0 p = znl f d v k q → x_V S 33 4 [some (.ref 3), some (.int (I v)), some (.int (I k))] [] (x_vm g1) n Q := by
  have tail : ∀ (g1 : Nat → Nat → Int) (v k q : Int), 0 ≤ v → v ≤ 999999 → 0 ≤ k → k ≤ 6 → q - p = k → zA g g1 q → znl f 6 0 0 p = (v, k, q) → x_V S 33 78 [some (.ref 3), some (.int (I v)), some (.int (I k))] [] (x_vm g1) n Q := by
    intro g1 v k q v1 v2 k1 k2 hq hA e
    unfold znum at h
    rw [e] at h
    simp only at h
    have hz : (if f q = 1 then (1 : Int) else 0) = 0 ∧ ¬ f q = 1 ∨ (if f q = 1 then (1 : Int) else 0) = 1 ∧ f q = 1 := by
      split
      · exact Or.inr ⟨rfl, by assumption⟩
      · exact Or.inl ⟨rfl, by assumption⟩
    refine s33_78 rfl ?_
    refine s33_79 ⟨by omega, by omega⟩ (fun h79 => ?_) (fun h79 => ?_)
    · refine s33_93 ?_
      refine s33_94 (st := []) ?_
      first
        | (rw [if_neg (show ¬ 0 < k by omega)] at h; exact h _ hA)
        | (rw [if_pos (show 0 < k by omega)] at h
           rw [if_pos (show f q = 1 by omega)] at h; exact h _ (hA.tr hA2))
        | (rw [if_pos (show 0 < k by omega)] at h
           rw [if_neg (show ¬ f q = 1 by omega)] at h; exact h _ (hA.tr hA2))
    · refine s33_82 rfl ?_
      refine s33_83 (by first | assumption | rfl) (by simp) ?_
      refine c36 (p := q) (hA.s hS0) hA.1 ⟨by omega, by omega⟩ (fun g2 hA2 => ?_)
      refine ⟨_, rfl, ?_⟩
      refine s33_86 ⟨by omega, by omega⟩ (fun h86 => ?_) (fun h86 => ?_)
      · refine s33_93 ?_
        refine s33_94 (st := []) ?_
        first
          | (rw [if_neg (show ¬ 0 < k by omega)] at h; exact h _ hA)
          | (rw [if_pos (show 0 < k by omega)] at h
             rw [if_pos (show f q = 1 by omega)] at h; exact h _ (hA.tr hA2))
          | (rw [if_pos (show 0 < k by omega)] at h
             rw [if_neg (show ¬ f q = 1 by omega)] at h; exact h _ (hA.tr hA2))
      · refine s33_89 rfl ?_
        refine s33_90 ?_
        refine s33_94 (st := []) ?_
        first
          | (rw [if_neg (show ¬ 0 < k by omega)] at h; exact h _ hA)
          | (rw [if_pos (show 0 < k by omega)] at h
             rw [if_pos (show f q = 1 by omega)] at h; exact h _ (hA.tr hA2))
          | (rw [if_pos (show 0 < k by omega)] at h
             rw [if_neg (show ¬ f q = 1 by omega)] at h; exact h _ (hA.tr hA2))
  intro d
  induction d with
  | zero =>
    intro g1 v k q h1 h2 h3 h4 h5 h6 hA e
    have e5 : (10 : Int) ^ (6 - 0) = 1000000 := by decide
    refine s33_4 rfl ?_
    refine s33_5 ?_
    refine s33_7 ⟨by omega, by omega⟩ ⟨by omega, by omega⟩ (fun h7 => ?_) (fun h7 => ?_)
    · exact tail g1 v k q (by omega) (by omega) (by omega) (by omega) h6 hA e
    · exfalso; omega
  | succ d ih =>
    intro g1 v k q h1 h2 h3 h4 h5 h6 hA e
    have e2 : (10 : Int) ^ (6 - (d + 1)) ≤ 100000 := by
      have : ∀ j : Nat, j ≤ 5 → (10 : Int) ^ j ≤ 100000 := by decide
      exact this _ (by omega)
    have e3 : (10 : Int) ^ (6 - d) = 10 * 10 ^ (6 - (d + 1)) := by
      rw [show 6 - d = (6 - (d + 1)) + 1 by omega, Int.pow_succ]
      omega
    have hS := hA.s hS0
    have hp := hA.1
    have hb := hS.2.2 q
    rw [show znl f (d + 1) v k q = (if 48 ≤ f q ∧ f q ≤ 57 then znl f d (v * 10 + f q - 48) (k + 1) (q + 1) else (v, k, q)) from rfl] at e
    refine s33_4 rfl ?_
    refine s33_5 ?_
    refine s33_7 ⟨by omega, by omega⟩ ⟨by omega, by omega⟩ (fun h7 => ?_) (fun h7 => ?_)
    · first
        | (exfalso; omega)
        | (rw [if_neg (show ¬ (48 ≤ f q ∧ f q ≤ 57) by omega)] at e; exact tail g1 v k q (by omega) (by omega) (by omega) (by omega) h6 hA e)
    · refine s33_10 rfl ?_
      refine s33_11 (by first | assumption | rfl) (by first | assumption | (exact hpo _) | rfl | decide) ?_
      refine s33_14 rfl ?_
      refine s33_15 (by first | assumption | rfl) (by first | assumption | (exact hpo _) | rfl | decide) (by first | assumption | decide | omega) ?_
      refine s33_18 (by first | assumption | rfl) (by simp) ?_
      refine c9 x_row4 ⟨by omega, by omega⟩ hS.2.1 ?_
      refine ⟨_, rfl, ?_⟩
      rw [hp, hS.1 q]
      refine s33_21 ?_
      refine s33_23 ⟨by omega, by omega⟩ ⟨by omega, by omega⟩ (fun h23 => ?_) (fun h23 => ?_)
      · first
          | (exfalso; omega)
          | (rw [if_neg (show ¬ (48 ≤ f q ∧ f q ≤ 57) by omega)] at e; exact tail g1 v k q (by omega) (by omega) (by omega) (by omega) h6 hA e)
      · refine s33_26 rfl ?_
        refine s33_27 (by first | assumption | rfl) (by first | assumption | (exact hpo _) | rfl | decide) ?_
        refine s33_30 rfl ?_
        refine s33_31 (by first | assumption | rfl) (by first | assumption | (exact hpo _) | rfl | decide) (by first | assumption | decide | omega) ?_
        refine s33_34 (by first | assumption | rfl) (by simp) ?_
        refine c9 x_row4 ⟨by omega, by omega⟩ hS.2.1 ?_
        refine ⟨_, rfl, ?_⟩
        rw [hp, hS.1 q]
        refine s33_37 ?_
        refine s33_39 ⟨by omega, by omega⟩ ⟨by omega, by omega⟩ (fun h39 => ?_) (fun h39 => ?_)
        · first
            | (exfalso; omega)
            | (rw [if_neg (show ¬ (48 ≤ f q ∧ f q ≤ 57) by omega)] at e; exact tail g1 v k q (by omega) (by omega) (by omega) (by omega) h6 hA e)
        · refine s33_42 rfl ?_
          refine s33_43 ?_
          refine s33_45 ?_
          refine s33_46 rfl ?_
          refine s33_47 (by first | assumption | rfl) (by first | assumption | (exact hpo _) | rfl | decide) ?_
          refine s33_50 rfl ?_
          refine s33_51 (by first | assumption | rfl) (by first | assumption | (exact hpo _) | rfl | decide) (by first | assumption | decide | omega) ?_
          refine s33_54 (by first | assumption | rfl) (by simp) ?_
          refine c9 x_row4 ⟨by omega, by omega⟩ hS.2.1 ?_
          refine ⟨_, rfl, ?_⟩
          rw [hp, hS.1 q]
          refine s33_57 ?_
          refine s33_58 ?_
          refine s33_60 ?_
          refine s33_61 ?_
          refine s33_62 rfl ?_
          refine s33_65 rfl ?_
          refine s33_66 rfl ?_
          refine s33_67 (by first | assumption | rfl) (by first | assumption | (exact hpo _) | rfl | decide) (by first | assumption | decide | omega) ?_
          rw [hp]
          refine s33_70 ?_
          refine s33_71 ?_
          refine s33_72 (by first | assumption | rfl) (by first | assumption | (exact hpo _) | rfl | decide) (by first | assumption | decide | omega) ?_
          refine s33_75 ?_
          rw [if_pos (show 48 ≤ f q ∧ f q ≤ 57 by omega)] at e
          exact ih _ _ (k + 1) (q + 1) (by omega) (by omega) (by omega) (by omega) (by omega) (by omega) (hA.tr zA.u) e
theorem c33 (hS : zS g f) (hp : g 3 1 = p) (h0 : 0 ≤ p ∧ p ≤ 1000) (h : ∀ g', zA g g' (znum f p).2 → Q (.inl (some (.int (I (znum f p).1)))) (x_vm g') n) : x_V S 33 0 [some (.ref 3), none, none] [] (x_vm g) n Q := by
  refine s33_0 ?_
  refine s33_1 ?_
  refine s33_2 ?_
  refine s33_3 ?_
  exact l33 hS h0 h 6 g 0 0 p (by omega) (by omega) (by omega) (by omega) (by decide) (by omega) ⟨hp, fun _ _ _ => rfl⟩ rfl
def zol (f : Int → Int) (t : Int) : List Int → Int → Option Int
  | [], q => if f q = 61 then some (q + 1) else none
  | u :: us, q => if u ≤ t then (if f q = 48 + t / u % 10 then zol f t us (q + 1) else none) else zol f t us q
def zop (f : Int → Int) (t p : Int) : Option Int := zol f t [100, 10, 1] p
theorem zol_b {t : Int} : ∀ (us : List Int) (q q' : Int), zol f t us q = some q' → q < q' ∧ q' ≤ q + us.length + 1
  | [], q, q', h => by
    rw [zol] at h
    split at h
    · cases h
      simp only [List.length_nil]
      omega
    · cases h
  | u :: us, q, q', h => by
    rw [zol] at h
    rw [List.length_cons]
    split at h
    · split at h
      · have := zol_b us _ _ h
        omega
      · cases h
    · have := zol_b us _ _ h
      omega
theorem zop_b {t q' : Int} (h : zop f t p = some q') : p < q' ∧ q' ≤ p + 4 := by
  have := zol_b _ _ _ h
  simp only [List.length_cons, List.length_nil] at this
  omega
theorem c32 {t : Int} (hS : zS g f) (hp : g 3 1 = p) (h0 : 0 ≤ p ∧ p ≤ 1000) (ht : 0 ≤ t ∧ t ≤ 999) (hY : ∀ q g', zop f t p = some q → zA g g' q → Q (.inl (some (.int (I 1)))) (x_vm g') n) (hN : zop f t p = none → Q (.inl (some (.int (I 0)))) (x_vm g) n) : x_V S 32 0 [some (.ref 3), some (.int (I t)), none, none] [] (x_vm g) n Q := by
  unfold zop at hY hN
  have p0 : ∀ q : Int, 0 ≤ q ∧ q ≤ 1003 → (∀ q' g', zol f t [] q = some q' → zA g g' q' → Q (.inl (some (.int (I 1)))) (x_vm g') n) → (zol f t [] q = none → Q (.inl (some (.int (I 0)))) (x_vm g) n) → x_V S 32 8 [some (.ref 3), some (.int (I t)), some (.int (I q)), some (.int (I 0))] [] (x_vm g) n Q := by
    intro q hq hY hN
    rw [zol] at hY hN
    have hb := hS.2.2 q
    refine s32_8 rfl ?_
    refine s32_9 ⟨by omega, by omega⟩ (fun h9 => ?_) (fun h9 => ?_)
    · refine s32_50 rfl ?_
      refine s32_51 (by first | assumption | rfl) (by first | assumption | (exact hpo _) | rfl | decide) ?_
      refine s32_54 rfl ?_
      refine s32_55 (by first | assumption | rfl) (by simp) ?_
      refine c9 x_row4 ⟨by omega, by omega⟩ hS.2.1 ?_
      refine ⟨_, rfl, ?_⟩
      rw [hS.1 q]
      refine s32_58 ?_
      refine s32_60 ⟨by omega, by omega⟩ ⟨by omega, by omega⟩ (fun h60 => ?_) (fun h60 => ?_)
      · refine s32_65 rfl ?_
        refine s32_66 rfl ?_
        refine s32_67 ?_
        refine s32_68 ?_
        refine s32_69 (by first | assumption | rfl) (by first | assumption | (exact hpo _) | rfl | decide) (by first | assumption | decide | omega) ?_
        refine s32_72 ?_
        refine s32_73 (st := []) (by omega) ?_
        exact hY _ _ (if_pos (by omega)) zA.u
      · refine s32_63 ?_
        refine s32_64 (st := []) (by omega) ?_
        exact hN (if_neg (by omega))
    · exfalso; omega
  have p1 : ∀ q : Int, 0 ≤ q ∧ q ≤ 1002 → (∀ q' g', zol f t [1] q = some q' → zA g g' q' → Q (.inl (some (.int (I 1)))) (x_vm g') n) → (zol f t [1] q = none → Q (.inl (some (.int (I 0)))) (x_vm g) n) → x_V S 32 8 [some (.ref 3), some (.int (I t)), some (.int (I q)), some (.int (I 1))] [] (x_vm g) n Q := by
    intro q hq hY hN
    rw [zol] at hY hN
    have hb := hS.2.2 q
    refine s32_8 rfl ?_
    refine s32_9 ⟨by omega, by omega⟩ (fun h9 => ?_) (fun h9 => ?_)
    · exfalso; omega
    · refine s32_12 rfl ?_
      refine s32_13 rfl ?_
      refine s32_14 ⟨by omega, by omega⟩ ⟨by omega, by omega⟩ (fun h14 => ?_) (fun h14 => ?_)
      · refine s32_42 rfl ?_
        refine s32_43 ?_
        refine s32_45 ⟨by omega, by omega⟩ ⟨by omega, by omega⟩ (by omega) (by omega) ?_
        rw [show ((1 : Int) / 10) = 0 by decide]
        refine s32_46 ?_
        refine s32_47 ?_
        first
          | (rw [if_pos (show (1 : Int) ≤ t by omega)] at hY hN
             rw [if_pos (show _ = _ by assumption)] at hY hN
             exact p0 _ ⟨by omega, by omega⟩ hY hN)
          | (rw [if_neg (show ¬ (1 : Int) ≤ t by omega)] at hY hN; exact p0 _ ⟨by omega, by omega⟩ hY hN)
      · refine s32_17 rfl ?_
        refine s32_18 (by first | assumption | rfl) (by first | assumption | (exact hpo _) | rfl | decide) ?_
        refine s32_21 rfl ?_
        refine s32_22 (by first | assumption | rfl) (by simp) ?_
        refine c9 x_row4 ⟨by omega, by omega⟩ hS.2.1 ?_
        refine ⟨_, rfl, ?_⟩
        rw [hS.1 q]
        refine s32_25 ?_
        refine s32_27 rfl ?_
        refine s32_28 rfl ?_
        refine s32_29 ⟨by omega, by omega⟩ ⟨by omega, by omega⟩ (by omega) (by omega) ?_
        refine s32_30 ?_
        refine s32_32 ⟨by omega, by omega⟩ ⟨by omega, by omega⟩ (by omega) (by omega) ?_
        refine s32_33 ?_
        refine s32_34 ⟨by omega, by omega⟩ ⟨by omega, by omega⟩ (fun h34 => ?_) (fun h34 => ?_)
        · refine s32_39 rfl ?_
          refine s32_42 rfl ?_
          refine s32_43 ?_
          refine s32_45 ⟨by omega, by omega⟩ ⟨by omega, by omega⟩ (by omega) (by omega) ?_
          rw [show ((1 : Int) / 10) = 0 by decide]
          refine s32_46 ?_
          refine s32_47 ?_
          first
            | (rw [if_pos (show (1 : Int) ≤ t by omega)] at hY hN
               rw [if_pos (show _ = _ by assumption)] at hY hN
               exact p0 _ ⟨by omega, by omega⟩ hY hN)
            | (rw [if_neg (show ¬ (1 : Int) ≤ t by omega)] at hY hN; exact p0 _ ⟨by omega, by omega⟩ hY hN)
        · refine s32_37 ?_
          refine s32_38 (st := []) (by omega) ?_
          rw [if_pos (show (1 : Int) ≤ t by omega)] at hN
          exact hN (if_neg (by assumption))
  have p2 : ∀ q : Int, 0 ≤ q ∧ q ≤ 1001 → (∀ q' g', zol f t [10, 1] q = some q' → zA g g' q' → Q (.inl (some (.int (I 1)))) (x_vm g') n) → (zol f t [10, 1] q = none → Q (.inl (some (.int (I 0)))) (x_vm g) n) → x_V S 32 8 [some (.ref 3), some (.int (I t)), some (.int (I q)), some (.int (I 10))] [] (x_vm g) n Q := by
    intro q hq hY hN
    rw [zol] at hY hN
    have hb := hS.2.2 q
    refine s32_8 rfl ?_
    refine s32_9 ⟨by omega, by omega⟩ (fun h9 => ?_) (fun h9 => ?_)
    · exfalso; omega
    · refine s32_12 rfl ?_
      refine s32_13 rfl ?_
      refine s32_14 ⟨by omega, by omega⟩ ⟨by omega, by omega⟩ (fun h14 => ?_) (fun h14 => ?_)
      · refine s32_42 rfl ?_
        refine s32_43 ?_
        refine s32_45 ⟨by omega, by omega⟩ ⟨by omega, by omega⟩ (by omega) (by omega) ?_
        rw [show ((10 : Int) / 10) = 1 by decide]
        refine s32_46 ?_
        refine s32_47 ?_
        first
          | (rw [if_pos (show (10 : Int) ≤ t by omega)] at hY hN
             rw [if_pos (show _ = _ by assumption)] at hY hN
             exact p1 _ ⟨by omega, by omega⟩ hY hN)
          | (rw [if_neg (show ¬ (10 : Int) ≤ t by omega)] at hY hN; exact p1 _ ⟨by omega, by omega⟩ hY hN)
      · refine s32_17 rfl ?_
        refine s32_18 (by first | assumption | rfl) (by first | assumption | (exact hpo _) | rfl | decide) ?_
        refine s32_21 rfl ?_
        refine s32_22 (by first | assumption | rfl) (by simp) ?_
        refine c9 x_row4 ⟨by omega, by omega⟩ hS.2.1 ?_
        refine ⟨_, rfl, ?_⟩
        rw [hS.1 q]
        refine s32_25 ?_
        refine s32_27 rfl ?_
        refine s32_28 rfl ?_
        refine s32_29 ⟨by omega, by omega⟩ ⟨by omega, by omega⟩ (by omega) (by omega) ?_
        refine s32_30 ?_
        refine s32_32 ⟨by omega, by omega⟩ ⟨by omega, by omega⟩ (by omega) (by omega) ?_
        refine s32_33 ?_
        refine s32_34 ⟨by omega, by omega⟩ ⟨by omega, by omega⟩ (fun h34 => ?_) (fun h34 => ?_)
        · refine s32_39 rfl ?_
          refine s32_42 rfl ?_
          refine s32_43 ?_
          refine s32_45 ⟨by omega, by omega⟩ ⟨by omega, by omega⟩ (by omega) (by omega) ?_
          rw [show ((10 : Int) / 10) = 1 by decide]
          refine s32_46 ?_
          refine s32_47 ?_
          first
            | (rw [if_pos (show (10 : Int) ≤ t by omega)] at hY hN
               rw [if_pos (show _ = _ by assumption)] at hY hN
               exact p1 _ ⟨by omega, by omega⟩ hY hN)
            | (rw [if_neg (show ¬ (10 : Int) ≤ t by omega)] at hY hN; exact p1 _ ⟨by omega, by omega⟩ hY hN)
        · refine s32_37 ?_
          refine s32_38 (st := []) (by omega) ?_
          rw [if_pos (show (10 : Int) ≤ t by omega)] at hN
          exact hN (if_neg (by assumption))
  have p3 : ∀ q : Int, 0 ≤ q ∧ q ≤ 1000 → (∀ q' g', zol f t [100, 10, 1] q = some q' → zA g g' q' → Q (.inl (some (.int (I 1)))) (x_vm g') n) → (zol f t [100, 10, 1] q = none → Q (.inl (some (.int (I 0)))) (x_vm g) n) → x_V S 32 8 [some (.ref 3), some (.int (I t)), some (.int (I q)), some (.int (I 100))] [] (x_vm g) n Q := by
    intro q hq hY hN
    rw [zol] at hY hN
    have hb := hS.2.2 q
    refine s32_8 rfl ?_
    refine s32_9 ⟨by omega, by omega⟩ (fun h9 => ?_) (fun h9 => ?_)
    · exfalso; omega
    · refine s32_12 rfl ?_
      refine s32_13 rfl ?_
      refine s32_14 ⟨by omega, by omega⟩ ⟨by omega, by omega⟩ (fun h14 => ?_) (fun h14 => ?_)
      · refine s32_42 rfl ?_
        refine s32_43 ?_
        refine s32_45 ⟨by omega, by omega⟩ ⟨by omega, by omega⟩ (by omega) (by omega) ?_
        rw [show ((100 : Int) / 10) = 10 by decide]
        refine s32_46 ?_
        refine s32_47 ?_
        first
          | (rw [if_pos (show (100 : Int) ≤ t by omega)] at hY hN
             rw [if_pos (show _ = _ by assumption)] at hY hN
             exact p2 _ ⟨by omega, by omega⟩ hY hN)
          | (rw [if_neg (show ¬ (100 : Int) ≤ t by omega)] at hY hN; exact p2 _ ⟨by omega, by omega⟩ hY hN)
      · refine s32_17 rfl ?_
        refine s32_18 (by first | assumption | rfl) (by first | assumption | (exact hpo _) | rfl | decide) ?_
        refine s32_21 rfl ?_
        refine s32_22 (by first | assumption | rfl) (by simp) ?_
        refine c9 x_row4 ⟨by omega, by omega⟩ hS.2.1 ?_
        refine ⟨_, rfl, ?_⟩
        rw [hS.1 q]
        refine s32_25 ?_
        refine s32_27 rfl ?_
        refine s32_28 rfl ?_
        refine s32_29 ⟨by omega, by omega⟩ ⟨by omega, by omega⟩ (by omega) (by omega) ?_
        refine s32_30 ?_
        refine s32_32 ⟨by omega, by omega⟩ ⟨by omega, by omega⟩ (by omega) (by omega) ?_
        refine s32_33 ?_
        refine s32_34 ⟨by omega, by omega⟩ ⟨by omega, by omega⟩ (fun h34 => ?_) (fun h34 => ?_)
        · refine s32_39 rfl ?_
          refine s32_42 rfl ?_
          refine s32_43 ?_
          refine s32_45 ⟨by omega, by omega⟩ ⟨by omega, by omega⟩ (by omega) (by omega) ?_
          rw [show ((100 : Int) / 10) = 10 by decide]
          refine s32_46 ?_
          refine s32_47 ?_
          first
            | (rw [if_pos (show (100 : Int) ≤ t by omega)] at hY hN
               rw [if_pos (show _ = _ by assumption)] at hY hN
               exact p2 _ ⟨by omega, by omega⟩ hY hN)
            | (rw [if_neg (show ¬ (100 : Int) ≤ t by omega)] at hY hN; exact p2 _ ⟨by omega, by omega⟩ hY hN)
        · refine s32_37 ?_
          refine s32_38 (st := []) (by omega) ?_
          rw [if_pos (show (100 : Int) ≤ t by omega)] at hN
          exact hN (if_neg (by assumption))
  refine s32_0 rfl ?_
  refine s32_1 (by first | assumption | rfl) (by first | assumption | (exact hpo _) | rfl | decide) (by first | assumption | decide | omega) ?_
  rw [hp]
  refine s32_4 ?_
  refine s32_5 ?_
  refine s32_7 ?_
  exact p3 p h0 hY hN
end CI
