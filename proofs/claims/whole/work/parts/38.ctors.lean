/-! 38.ctors: the constructors: what they make is the steady memory at its start. -/
section CX
variable {S : Nat × (Nat → Int32)} {μ : xM} {n a : Nat} {Q : xQ} {L : List (Option Value)} {st : List Value} {k pc : Nat}
theorem x_cell_to {w : xW} {μ μ' : xM} {j : Nat} {H : Heap} (h : x_cell w μ j H) (e : ∀ i, i < (x_sh j).2 → μ j i = μ' j i) : x_cell w μ' j H := by
  unfold x_cell at h ⊢
  by_cases q : (x_sh j).1 < 50
  · rw [if_pos q] at h ⊢
    exact h.to (fun i hi => by rw [e i hi])
  · rw [if_neg q] at h ⊢
    by_cases q2 : (x_sh j).1 < 100
    · rw [if_pos q2] at h ⊢
      exact h
    · rw [if_neg q2] at h ⊢
      rw [h]
      have z : (fun i : Fin (x_sh j).2 => x_cv w (μ j i.val)) = (fun i : Fin (x_sh j).2 => x_cv w (μ' j i.val)) := funext fun i => by rw [e i.val i.isLt]
      unfold arrV
      rw [z]
/-- a walk depends on the made cells alone -/
theorem x_V_mem {μ' : xM} (e : ∀ j, 2 ≤ j → j < n → ∀ i, i < (x_sh j).2 → μ j i = μ' j i) (ho : ∀ j i, x_ok n (μ' j i)) (h : x_V S k pc L st μ' n Q) : x_V S k pc L st μ n Q := by
  intro w p l en R s m args below meth c H locs cells slots ls hG
  refine h w p l en R s m args below meth c H locs cells slots ls ?_
  obtain ⟨h1, h2, h3⟩ := hG
  obtain ⟨r1, r2, r3, r4, r5⟩ := h2
  exact ⟨h1, ⟨r1, r2, r3, fun j q1 q2 => x_cell_to (r4 j q1 q2) (e j q1 q2), ho⟩, h3⟩
def x_g0 : Nat → Nat → Int := fun a i => if (a = 8 ∧ (i = 3 ∨ i = 4)) ∨ (a = 100 ∧ (i = 20 ∨ i = 21)) then 1 else 0
def x_T : xM := x_vm x_g0
theorem x_T_p {v : Value} {i : Nat} (h : x_pt a i = some v) : x_T a i = v := x_vm_p h
theorem x_T_0 {i : Nat} (h : x_pt a i = none) (h1 : a ≠ 115) (h2 : a ≠ 8) (h3 : a ≠ 100) : x_T a i = .int 0 := by
  unfold x_T
  rw [x_vm_i h h1]
  unfold x_g0
  rw [if_neg (by omega)]
  rfl
/-- the cells from lo to n are as they shall be -/
def xg (ν : xM) (lo n : Nat) : Prop := ∀ b, lo ≤ b → b < n → ∀ i, i < (x_sh b).2 → ν b i = x_T b i
theorem z_up_eq (μ : xM) (a i : Nat) (v : Value) : x_up μ a i v a i = v := by
  unfold x_up
  rw [if_pos ⟨rfl, rfl⟩]
theorem z_up_ne {μ : xM} {a i b j : Nat} {v : Value} (h : b ≠ a) : x_up μ a i v b j = μ b j := by
  unfold x_up
  rw [if_neg (fun e => h e.1)]
theorem z_up_i {μ : xM} {a i b j : Nat} {v : Value} (h : j ≠ i) : x_up μ a i v b j = μ b j := by
  unfold x_up
  rw [if_neg (fun e => h e.2)]
theorem z_nw_eq (μ : xM) (a i : Nat) (f : Nat → Value) : x_nw μ a f a i = f i := by
  unfold x_nw
  rw [if_pos rfl]
theorem z_nw_ne {μ : xM} {a b i : Nat} {f : Nat → Value} (h : b ≠ a) : x_nw μ a f b i = μ b i := by
  unfold x_nw
  rw [if_neg h]
theorem c5 (hr : x_row a n) (hn : n < x_NM) (h : Q (.inl none) (x_up (x_nw μ n (fun _ => .int 0)) a 0 (.ref n)) (n + 1)) : x_V S 5 0 [some (.ref a)] [] μ n Q := by
  refine s5_0 rfl ?_
  refine s5_1 (by simp) ?_
  refine s5_4 rfl ?_
  refine s5_5 ?_
  refine s5_7 hr.2.2.2.2.1 (by decide) (by decide) (by decide) hn ?_
  refine s5_9 hr.1 ?_
  exact s5_12 (st := []) h
theorem c17 (h : Q (.inl none) μ n) : x_V S 17 0 [some (.ref a)] [] μ n Q := by
  refine s17_0 rfl ?_
  refine s17_1 (by simp) ?_
  exact s17_4 (st := []) h
theorem c21 (hm : x_msg a n) (hn : n < x_NM) (h : Q (.inl none) (x_up (x_nw μ n (fun _ => .int 0)) a 3 (.ref n)) (n + 1)) : x_V S 21 0 [some (.ref a)] [] μ n Q := by
  refine s21_0 rfl ?_
  refine s21_1 (by simp) ?_
  refine s21_4 rfl ?_
  refine s21_5 ?_
  refine s21_6 hm.2.2.2.2.1 (by decide) (by decide) (by decide) hn ?_
  refine s21_8 hm.1 ?_
  exact s21_11 (st := []) h
theorem c42 (h : Q (.inl none) (x_up (x_nw μ 99 (fun _ => .int 0)) 98 0 (.ref 99)) 100) : x_V S 42 0 [some (.ref 98)] [] μ 99 Q := by
  refine s42_0 rfl ?_
  refine s42_1 (by simp) ?_
  refine s42_4 rfl ?_
  refine s42_5 ?_
  refine s42_8 rfl (by decide) (by decide) (by decide) (by decide) ?_
  refine s42_10 rfl ?_
  exact s42_13 (st := []) h
theorem c27 (h : Q (.inl none) (x_up (x_up (x_nw (x_nw μ 4 (fun i => defaultValue (xt2 i))) 5 (fun _ => .int 0)) 4 0 (.ref 5)) 3 0 (.ref 4)) 6) : x_V S 27 0 [some (.ref 3)] [] μ 4 Q := by
  refine s27_0 rfl ?_
  refine s27_1 (by simp) ?_
  refine s27_4 rfl ?_
  refine s27_5 rfl (by decide) ?_
  refine s27_8 rfl ?_
  refine s27_9 (by simp) ?_
  refine c5 x_row4 (by decide) ?_
  refine ⟨_, rfl, ?_⟩
  refine s27_12 rfl ?_
  exact s27_15 (st := []) h
theorem x_T_row {a o i : Nat} (hr : x_row a o) (ha : a ≠ 8 ∧ a ≠ 100) (ho : o ≠ 8 ∧ o ≠ 100) (ν : xM) : (i < 2 → x_up (x_nw (x_nw ν a (fun i => defaultValue (xt2 i))) o (fun _ => .int 0)) a 0 (.ref o) a i = x_T a i) ∧ x_up (x_nw (x_nw ν a (fun i => defaultValue (xt2 i))) o (fun _ => .int 0)) a 0 (.ref o) o i = x_T o i := by
  obtain ⟨r1, r2, r3, r4, r5, r6, r7, r8⟩ := hr
  refine ⟨fun hi => ?_, ?_⟩
  · match i, hi with
    | 0, _ => rw [z_up_eq, x_T_p r2]
    | 1, _ => rw [z_up_i (by omega), z_nw_ne r8, z_nw_eq, x_T_0 r3 r4 ha.1 ha.2]; rfl
  · rw [z_up_ne (Ne.symm r8), z_nw_eq, x_T_0 (r6 i) r7 ho.1 ho.2]
theorem x_T_msg {a v i : Nat} (hm : x_msg a v) (ha : a ≠ 8 ∧ a ≠ 100) (ho : v ≠ 8 ∧ v ≠ 100) (ν : xM) : (i < 4 → x_up (x_nw (x_nw ν a (fun i => defaultValue (xt3 i))) v (fun _ => .int 0)) a 3 (.ref v) a i = x_T a i) ∧ x_up (x_nw (x_nw ν a (fun i => defaultValue (xt3 i))) v (fun _ => .int 0)) a 3 (.ref v) v i = x_T v i := by
  obtain ⟨r1, r2, r3, r4, r5, r6, r7, r8⟩ := hm
  refine ⟨fun hi => ?_, ?_⟩
  · match i, hi with
    | 3, _ => rw [z_up_eq, x_T_p r2]
    | 0, _ => rw [z_up_i (by omega), z_nw_ne r8, z_nw_eq, x_T_0 (r3 0 (by omega)) r4 ha.1 ha.2]; rfl
    | 1, _ => rw [z_up_i (by omega), z_nw_ne r8, z_nw_eq, x_T_0 (r3 1 (by omega)) r4 ha.1 ha.2]; rfl
    | 2, _ => rw [z_up_i (by omega), z_nw_ne r8, z_nw_eq, x_T_0 (r3 2 (by omega)) r4 ha.1 ha.2]; rfl
  · rw [z_up_ne (Ne.symm r8), z_nw_eq, x_T_0 (r6 i) r7 ho.1 ho.2]
/-- Outbox -/
theorem l37 (h : ∀ ν, xg ν 9 55 → (∀ b i, b < 9 → ν b i = μ b i) → Q (.inl none) ν 55) :
    ∀ (d k : Nat) (ν : xM), k + d = 21 → xg ν 11 (13 + 2 * k) → (∀ i, i < 3 → ν 9 i = x_T 9 i) → (∀ i, i < k → ν 10 i = x_T 10 i) → (∀ b i, b < 9 → ν b i = μ b i) → x_V S 37 26 [some (.ref 9), some (.int (I k))] [] ν (13 + 2 * k) Q := by
  intro d
  induction d with
  | zero =>
    intro k ν hk h11 h9 h10 hb
    have e : ν 9 0 = .ref 10 := by rw [h9 0 (by omega)]; rfl
    refine s37_26 rfl ?_
    refine s37_27 rfl ?_
    refine s37_28 rfl ?_
    rw [e]
    refine v_alen d37_31 (show x_sh 10 = (103, 21) from rfl) (by decide) ?_
    refine s37_32 ⟨by omega, by omega⟩ ⟨by omega, by omega⟩ (fun h32 => ?_) (fun h32 => ?_)
    · have hk2 : k = 21 := by omega
      subst hk2
      refine s37_54 (st := []) (h ν (fun b q1 q2 i hi => ?_) hb)
      by_cases c : b = 9
      · rw [c] at hi ⊢; exact h9 i hi
      · by_cases c2 : b = 10
        · rw [c2] at hi ⊢; exact h10 i hi
        · exact h11 b (by omega) (by omega) i hi
    · exfalso; omega
  | succ d ih =>
    intro k ν hk h11 h9 h10 hb
    have hm := x_msgk k (by omega)
    have e : ν 9 0 = .ref 10 := by rw [h9 0 (by omega)]; rfl
    refine s37_26 rfl ?_
    refine s37_27 rfl ?_
    refine s37_28 rfl ?_
    rw [e]
    refine v_alen d37_31 (show x_sh 10 = (103, 21) from rfl) (by decide) ?_
    refine s37_32 ⟨by omega, by omega⟩ ⟨by omega, by omega⟩ (fun h32 => ?_) (fun h32 => ?_)
    · exfalso; omega
    · refine s37_35 rfl ?_
      refine s37_36 rfl ?_
      rw [e]
      refine s37_39 rfl ?_
      refine s37_40 hm.1 (by unfold x_NM; omega) ?_
      refine s37_43 rfl ?_
      refine s37_44 (by simp) ?_
      rw [show 13 + 2 * k + 1 = 14 + 2 * k by omega]
      refine c21 hm (by unfold x_NM; omega) ?_
      refine ⟨_, rfl, ?_⟩
      refine x_aast cf3 d37_47 (show x_sh 10 = (103, 21) from rfl) (by decide) rfl hm.1 (I_in (by omega) (by omega) (by omega)) ?_
      rw [I_nat ⟨by omega, by omega⟩, Int.toNat_natCast]
      refine s37_48 rfl ?_
      refine s37_51 ?_
      have hz := fun i => x_T_msg (i := i) hm ⟨by omega, by omega⟩ ⟨by omega, by omega⟩ ν
      have hr : ∀ b i, b ≠ 13 + 2 * k → b ≠ 14 + 2 * k → x_up (x_nw (x_nw ν (13 + 2 * k) (fun i => defaultValue (xt3 i))) (14 + 2 * k) (fun _ => .int 0)) (13 + 2 * k) 3 (.ref (14 + 2 * k)) b i = ν b i := fun b i q1 q2 => by rw [z_up_ne q1, z_nw_ne q2, z_nw_ne q1]
      generalize x_up (x_nw (x_nw ν (13 + 2 * k) (fun i => defaultValue (xt3 i))) (14 + 2 * k) (fun _ => .int 0)) (13 + 2 * k) 3 (.ref (14 + 2 * k)) = ν2 at hz hr
      rw [show 14 + 2 * k + 1 = 13 + 2 * (k + 1) by omega]
      refine ih (k + 1) _ (by omega) (fun b q1 q2 i hi => ?_) (fun i hi => ?_) (fun i hi => ?_) (fun b i q => ?_)
      · rw [z_up_ne (by omega)]
        by_cases c : b = 13 + 2 * k
        · rw [c] at hi ⊢
          exact (hz i).1 (by rw [hm.1] at hi; exact hi)
        · by_cases c2 : b = 14 + 2 * k
          · rw [c2]; exact (hz i).2
          · rw [hr b i c c2]; exact h11 b q1 (by omega) i hi
      · rw [z_up_ne (by omega), hr _ _ (by omega) (by omega)]; exact h9 i hi
      · by_cases c : i = k
        · rw [c, z_up_eq, x_T_p (x_pt10 (by omega))]
        · rw [z_up_i c, hr _ _ (by omega) (by omega)]; exact h10 i (by omega)
      · rw [z_up_ne (by omega), hr _ _ (by omega) (by omega)]; exact hb b i q
theorem c37 (h9 : ∀ i, i < 3 → μ 9 i = defaultValue (xt5 i)) (h : ∀ ν, xg ν 9 55 → (∀ b i, b < 9 → ν b i = μ b i) → Q (.inl none) ν 55) : x_V S 37 0 [some (.ref 9), none] [] μ 10 Q := by
  refine s37_0 rfl ?_
  refine s37_1 (by simp) ?_
  refine s37_4 rfl ?_
  refine s37_5 ?_
  refine s37_7 rfl (by decide) (by decide) (by decide) (by decide) ?_
  refine s37_10 rfl ?_
  refine s37_13 rfl ?_
  refine s37_14 rfl (by decide) ?_
  refine s37_17 rfl ?_
  refine s37_18 (by simp) ?_
  refine c5 x_row11 (by decide) ?_
  refine ⟨_, rfl, ?_⟩
  refine s37_21 rfl ?_
  refine s37_24 ?_
  refine s37_25 ?_
  have hz := fun i => x_T_row (i := i) x_row11 ⟨by omega, by omega⟩ ⟨by omega, by omega⟩ (x_up (x_nw μ 10 (fun _ => .null)) 9 0 (.ref 10))
  refine l37 h 21 0 _ (by omega) (fun b q1 q2 i hi => ?_) (fun i hi => ?_) (fun i hi => by omega) (fun b i q => ?_)
  · rw [z_up_ne (by omega)]
    by_cases c : b = 11
    · rw [c] at hi ⊢; exact (hz i).1 hi
    · rw [show b = 12 by omega]; exact (hz i).2
  · match i, hi with
    | 1, _ => rw [z_up_eq]; rfl
    | 0, _ => rw [z_up_i (by omega), z_up_ne (by omega), z_nw_ne (by omega), z_nw_ne (by omega), z_up_eq]; rfl
    | 2, _ => rw [z_up_i (by omega), z_up_ne (by omega), z_nw_ne (by omega), z_nw_ne (by omega), z_up_i (by omega), z_nw_ne (by omega), h9 2 (by omega)]; rfl
  · rw [z_up_ne (by omega), z_up_ne (by omega), z_nw_ne (by omega), z_nw_ne (by omega), z_up_ne (by omega), z_nw_ne (by omega)]
/-- Book -/
theorem l46 (h : ∀ ν, xg ν 55 98 → (∀ b i, b < 55 → ν b i = μ b i) → Q (.inl none) ν 98) :
    ∀ (d k : Nat) (ν : xM), k + d = 40 → xg ν 57 (58 + k) → (∀ i, i < 4 → ν 55 i = x_T 55 i) → (∀ i, i < k → ν 56 i = x_T 56 i) → (∀ b i, b < 55 → ν b i = μ b i) → x_V S 46 24 [some (.ref 55), some (.int (I k))] [] ν (58 + k) Q := by
  intro d
  induction d with
  | zero =>
    intro k ν hk h11 h9 h10 hb
    have e : ν 55 0 = .ref 56 := by rw [h9 0 (by omega)]; rfl
    refine s46_24 rfl ?_
    refine s46_25 rfl ?_
    refine s46_26 rfl ?_
    rw [e]
    refine v_alen d46_29 (show x_sh 56 = (104, 40) from rfl) (by decide) ?_
    refine s46_30 ⟨by omega, by omega⟩ ⟨by omega, by omega⟩ (fun h32 => ?_) (fun h32 => ?_)
    · have hk2 : k = 40 := by omega
      subst hk2
      refine s46_52 (st := []) (h ν (fun b q1 q2 i hi => ?_) hb)
      by_cases c : b = 55
      · rw [c] at hi ⊢; exact h9 i hi
      · by_cases c2 : b = 56
        · rw [c2] at hi ⊢; exact h10 i hi
        · exact h11 b (by omega) (by omega) i hi
    · exfalso; omega
  | succ d ih =>
    intro k ν hk h11 h9 h10 hb
    have hm := x_ordi (i := k) (by omega)
    have e : ν 55 0 = .ref 56 := by rw [h9 0 (by omega)]; rfl
    refine s46_24 rfl ?_
    refine s46_25 rfl ?_
    refine s46_26 rfl ?_
    rw [e]
    refine v_alen d46_29 (show x_sh 56 = (104, 40) from rfl) (by decide) ?_
    refine s46_30 ⟨by omega, by omega⟩ ⟨by omega, by omega⟩ (fun h32 => ?_) (fun h32 => ?_)
    · exfalso; omega
    · refine s46_33 rfl ?_
      refine s46_34 rfl ?_
      rw [e]
      refine s46_37 rfl ?_
      refine s46_38 hm.1 (by unfold x_NM; omega) ?_
      refine s46_41 rfl ?_
      refine s46_42 (by simp) ?_
      refine c17 ?_
      refine ⟨_, rfl, ?_⟩
      refine x_aast cf7 d46_45 (show x_sh 56 = (104, 40) from rfl) (by decide) rfl hm.1 (I_in (by omega) (by omega) (by omega)) ?_
      rw [I_nat ⟨by omega, by omega⟩, Int.toNat_natCast]
      refine s46_46 rfl ?_
      refine s46_49 ?_
      rw [show 58 + k + 1 = 58 + (k + 1) by omega]
      refine ih (k + 1) _ (by omega) (fun b q1 q2 i hi => ?_) (fun i hi => ?_) (fun i hi => ?_) (fun b i q => ?_)
      · rw [z_up_ne (by omega)]
        by_cases c : b = 58 + k
        · rw [c] at hi ⊢
          rw [z_nw_eq, x_T_0 (hm.2.1 i) hm.2.2 (by omega) (by omega)]
          rw [hm.1] at hi
          match i, hi with
          | 0, _ => rfl
          | 1, _ => rfl
          | 2, _ => rfl
          | 3, _ => rfl
          | 4, _ => rfl
        · rw [z_nw_ne c]; exact h11 b q1 (by omega) i hi
      · rw [z_up_ne (by omega), z_nw_ne (by omega)]; exact h9 i hi
      · by_cases c : i = k
        · rw [c, z_up_eq, x_T_p (x_pt56 (by omega))]
        · rw [z_up_i c, z_nw_ne (by omega)]; exact h10 i (by omega)
      · rw [z_up_ne (by omega), z_nw_ne (by omega)]; exact hb b i q
theorem c46 (h9 : ∀ i, i < 4 → μ 55 i = defaultValue (xt6 i)) (h : ∀ ν, xg ν 55 98 → (∀ b i, b < 55 → ν b i = μ b i) → Q (.inl none) ν 98) : x_V S 46 0 [some (.ref 55), none] [] μ 56 Q := by
  refine s46_0 rfl ?_
  refine s46_1 (by simp) ?_
  refine s46_4 rfl ?_
  refine s46_5 ?_
  refine s46_7 rfl (by decide) (by decide) (by decide) (by decide) ?_
  refine s46_10 rfl ?_
  refine s46_13 rfl ?_
  refine s46_14 ?_
  refine s46_17 rfl (by decide) (by decide) (by decide) (by decide) ?_
  refine s46_19 rfl ?_
  refine s46_22 ?_
  refine s46_23 ?_
  refine l46 h 40 0 _ (by omega) (fun b q1 q2 i hi => ?_) (fun i hi => ?_) (fun i hi => by omega) (fun b i q => ?_)
  · rw [show b = 57 by omega, z_up_ne (by omega), z_nw_eq, x_T_0 rfl (by omega) (by omega) (by omega)]; rfl
  · match i, hi with
    | 2, _ => rw [z_up_eq]; rfl
    | 0, _ => rw [z_up_i (by omega), z_nw_ne (by omega), z_up_eq]; rfl
    | 1, _ => rw [z_up_i (by omega), z_nw_ne (by omega), z_up_i (by omega), z_nw_ne (by omega), h9 1 (by omega)]; rfl
    | 3, _ => rw [z_up_i (by omega), z_nw_ne (by omega), z_up_i (by omega), z_nw_ne (by omega), h9 3 (by omega)]; rfl
  · rw [z_up_ne (by omega), z_nw_ne (by omega), z_up_ne (by omega), z_nw_ne (by omega)]
end CX
