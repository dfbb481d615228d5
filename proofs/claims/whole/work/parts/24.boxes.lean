/-! 24.boxes: contracts of Outbox, Store and of the book's looks. -/
section CB
variable {S : Nat × (Nat → Int32)} {μ : xM} {g : Nat → Nat → Int} {n a v : Nat} {Q : xQ}
theorem x_pt10 {i : Nat} (h : i < 21) : x_pt 10 i = some (.ref (13 + 2 * i)) := by
  unfold x_pt
  rw [if_pos rfl, if_pos h]
theorem x_pt56 {i : Nat} (h : i < 40) : x_pt 56 i = some (.ref (58 + i)) := by
  unfold x_pt
  rw [if_neg (by omega), if_pos rfl, if_pos h]
theorem x_ordi {i : Nat} (h : i < 40) : x_ord (58 + i) := by
  refine ⟨?_, ?_, ?_⟩
  · unfold x_sh
    rw [if_neg (by omega), if_neg (by omega), if_neg (by omega), if_pos (by omega)]
  · intro j
    unfold x_pt
    rw [if_neg (by omega), if_neg (by omega), if_neg (by omega)]
    split <;> first | rfl | omega
  · show 58 + i ≠ 115
    omega
theorem c38 (h : Q (.inl none) (x_vm (x_uf g 9 2 0)) n) : x_V S 38 0 [some (.ref 9)] [] (x_vm g) n Q := by
  refine s38_0 rfl ?_
  refine s38_1 ?_
  refine s38_2 (by first | assumption | rfl) (by first | assumption | (exact hpo _) | rfl | decide) (by first | assumption | decide | omega) ?_
  refine s38_5 (st := []) ?_
  exact h
theorem c39 {k : Nat} (hc : 0 ≤ g 9 2 ∧ g 9 2 ≤ 2000000000) (hk : (k : Int) = if g 9 2 < 20 then g 9 2 else 20) (h : Q (.inl (some (.ref (13 + 2 * k)))) (x_vm (x_uf g 9 2 (g 9 2 + 1))) n) : x_V S 39 0 [some (.ref 9), none] [] (x_vm g) n Q := by
  have hk2 : k ≤ 20 := by split at hk <;> omega
  refine s39_0 rfl ?_
  refine s39_1 (by first | assumption | rfl) (by first | assumption | (exact hpo _) | rfl | decide) ?_
  refine s39_4 rfl ?_
  refine s39_5 (by first | assumption | rfl) (by first | assumption | (exact hpo _) | rfl | decide) (by first | assumption | decide | omega) ?_
  refine s39_8 ?_
  refine s39_10 ⟨by omega, by omega⟩ ⟨by omega, by omega⟩ (fun h10 => ?_) (fun h10 => ?_)
  · refine s39_20 ?_
    refine v_aald d39_22 rfl (by decide) (by omega) (by omega) (by omega) (x_pt10 (by omega)) ?_
    refine s39_23 ?_
    refine s39_24 rfl ?_
    refine s39_25 rfl ?_
    refine s39_26 (by first | assumption | rfl) (by first | assumption | (exact hpo _) | rfl | decide) (by first | assumption | decide | omega) ?_
    refine s39_29 ?_
    refine s39_30 ?_
    refine s39_31 (by first | assumption | rfl) (by first | assumption | (exact hpo _) | rfl | decide) (by first | assumption | decide | omega) ?_
    refine s39_34 rfl ?_
    refine s39_35 (st := []) (by first | exact Or.inl rfl | exact Or.inr ⟨_, rfl⟩) ?_
    first
      | (rw [show k = (g 9 2).toNat from by split at hk <;> omega] at h; exact h)
      | (rw [show k = (20 : Int).toNat from by split at hk <;> omega] at h; exact h)
  · refine s39_13 rfl ?_
    refine s39_14 (by first | assumption | rfl) (by first | assumption | (exact hpo _) | rfl | decide) (by first | assumption | decide | omega) ?_
    refine s39_17 ?_
    refine v_aald d39_22 rfl (by decide) (by omega) (by omega) (by omega) (x_pt10 (by omega)) ?_
    refine s39_23 ?_
    refine s39_24 rfl ?_
    refine s39_25 rfl ?_
    refine s39_26 (by first | assumption | rfl) (by first | assumption | (exact hpo _) | rfl | decide) (by first | assumption | decide | omega) ?_
    refine s39_29 ?_
    refine s39_30 ?_
    refine s39_31 (by first | assumption | rfl) (by first | assumption | (exact hpo _) | rfl | decide) (by first | assumption | decide | omega) ?_
    refine s39_34 rfl ?_
    refine s39_35 (st := []) (by first | exact Or.inl rfl | exact Or.inr ⟨_, rfl⟩) ?_
    first
      | (rw [show k = (g 9 2).toNat from by split at hk <;> omega] at h; exact h)
      | (rw [show k = (20 : Int).toNat from by split at hk <;> omega] at h; exact h)
theorem c40 {k : Int} (hk : ib k) (hc : ib (g 9 2)) (h : Q (.inl (some (.int (I (if 0 ≤ k ∧ k < g 9 2 ∧ k < 20 then 1 else 0))))) (x_vm g) n) : x_V S 40 0 [some (.ref 9), some (.int (I k))] [] (x_vm g) n Q := by
  obtain ⟨k1, k2⟩ := hk
  obtain ⟨k3, k4⟩ := hc
  refine s40_0 rfl ?_
  refine s40_1 ⟨by omega, by omega⟩ (fun h1 => ?_) (fun h1 => ?_)
  · refine s40_22 ?_
    refine s40_23 (st := []) (by omega) ?_
    first | (rw [if_pos (by omega)] at h; exact h) | (rw [if_neg (by omega)] at h; exact h)
  · refine s40_4 rfl ?_
    refine s40_5 rfl ?_
    refine s40_6 (by first | assumption | rfl) (by first | assumption | (exact hpo _) | rfl | decide) (by first | assumption | decide | omega) ?_
    refine s40_9 ⟨by omega, by omega⟩ ⟨by omega, by omega⟩ (fun h9 => ?_) (fun h9 => ?_)
    · refine s40_22 ?_
      refine s40_23 (st := []) (by omega) ?_
      first | (rw [if_pos (by omega)] at h; exact h) | (rw [if_neg (by omega)] at h; exact h)
    · refine s40_12 rfl ?_
      refine s40_13 ?_
      refine s40_15 ⟨by omega, by omega⟩ ⟨by omega, by omega⟩ (fun h15 => ?_) (fun h15 => ?_)
      · refine s40_22 ?_
        refine s40_23 (st := []) (by omega) ?_
        first | (rw [if_pos (by omega)] at h; exact h) | (rw [if_neg (by omega)] at h; exact h)
      · refine s40_18 ?_
        refine s40_19 ?_
        refine s40_23 (st := []) (by omega) ?_
        first | (rw [if_pos (by omega)] at h; exact h) | (rw [if_neg (by omega)] at h; exact h)
/-- what makes a message fit to be written -/
def x_mok (g : Nat → Nat → Int) (a v : Nat) : Prop := (0 ≤ g a 0 ∧ g a 0 ≤ 127) ∧ (0 ≤ g a 1 ∧ g a 1 ≤ 2147483647) ∧ (g a 2 = 0 ∨ g a 2 = 1) ∧ (∀ i, i < 4 → -1 ≤ g v i ∧ g v i ≤ 999999) ∧ (∀ i : Nat, x_tg (g a 0) i = 39 → 0 ≤ g v i ∧ g v i ≤ 127)
theorem c41 {k : Nat} (hk : (k : Int) < g 9 2 ∧ k < 20) (hc : ib (g 9 2)) (hm : x_mok g (13 + 2 * k) (14 + 2 * k)) (hg : ∀ j, j < 120 → 0 ≤ g 12 j ∧ g 12 j ≤ 127)
    (h : Q (.inl (some (.ref 11))) (x_vm (x_rw 11 12 (x_fr (g (13 + 2 * k) 0) (g (13 + 2 * k) 1) (g (13 + 2 * k) 2) (g (14 + 2 * k))) g)) n) : x_V S 41 0 [some (.ref 9), some (.int (I k))] [] (x_vm g) n Q := by
  have hmk := x_msgk k (by omega)
  have hm1 := hmk.1
  obtain ⟨hk1, hk2⟩ := hk
  refine s41_0 rfl ?_
  refine s41_1 rfl ?_
  refine s41_2 (by first | assumption | rfl) (by simp) ?_
  refine c40 ⟨by omega, by omega⟩ hc ?_
  refine ⟨_, rfl, ?_⟩
  rw [if_pos ⟨by omega, by omega, by omega⟩]
  refine s41_5 ⟨by omega, by omega⟩ (fun h5 => ?_) (fun h5 => ?_)
  · refine s41_21 rfl ?_
    refine s41_22 (by first | assumption | rfl) (by first | assumption | (exact hpo _) | rfl | decide) ?_
    refine s41_25 (st := []) (by first | exact Or.inl rfl | exact Or.inr ⟨_, rfl⟩) ?_
    first | (exfalso; omega) | exact h
  · refine s41_8 rfl ?_
    refine s41_9 (by first | assumption | rfl) (by first | assumption | (exact hpo _) | rfl | decide) ?_
    refine s41_12 rfl ?_
    refine v_aald d41_13 rfl (by decide) (by omega) (by omega) (by omega) (x_pt10 (by omega)) ?_
    rw [Int.toNat_natCast]
    refine s41_14 rfl ?_
    refine s41_15 (by first | assumption | rfl) (by first | assumption | (exact hpo _) | rfl | decide) ?_
    refine s41_18 rfl (by first | assumption | rfl) (by simp) ?_
    refine c25 x_row11 hmk ⟨by omega, by omega, by omega, by omega⟩ hm.1 hm.2.1 hm.2.2.1 hm.2.2.2.1 hm.2.2.2.2 hg ?_
    refine ⟨_, rfl, ?_⟩
    refine s41_21 rfl ?_
    refine s41_22 (by first | assumption | rfl) (by first | assumption | (exact hpo _) | rfl | decide) ?_
    refine s41_25 (st := []) (by first | exact Or.inl rfl | exact Or.inr ⟨_, rfl⟩) ?_
    first | (exfalso; omega) | exact h
def x_keep (k : Nat) (m i t f l : Int) (g : Nat → Nat → Int) : Nat → Nat → Int := x_uf (x_uf (x_uf (x_uf (x_uf (x_uf g 99 (5 * k) m) 99 (5 * k + 1) i) 99 (5 * k + 2) t) 99 (5 * k + 3) f) 99 (5 * k + 4) l) 98 1 (k + 1)
theorem c43 {k : Nat} {m i t f l : Int} (hk : g 98 1 = k) (hk2 : k < 512) (h : Q (.inl none) (x_vm (x_keep k m i t f l g)) n) : x_V S 43 0 [some (.ref 98), some (.int (I m)), some (.int (I i)), some (.int (I t)), some (.int (I f)), some (.int (I l)), none] [] (x_vm g) n Q := by
  have e0 : ((k : Int) * 5).toNat = 5 * k := by omega
  have e1 : ((k : Int) * 5 + 1).toNat = 5 * k + 1 := by omega
  have e2 : ((k : Int) * 5 + 2).toNat = 5 * k + 2 := by omega
  have e3 : ((k : Int) * 5 + 3).toNat = 5 * k + 3 := by omega
  have e4 : ((k : Int) * 5 + 4).toNat = 5 * k + 4 := by omega
  refine s43_0 rfl ?_
  refine s43_1 (by first | assumption | rfl) (by first | assumption | (exact hpo _) | rfl | decide) (by first | assumption | decide | omega) ?_
  refine s43_4 ?_
  refine s43_7 ⟨by omega, by omega⟩ ⟨by omega, by omega⟩ (fun h7 => ?_) (fun h7 => ?_)
  · refine s43_11 rfl ?_
    refine s43_12 (by first | assumption | rfl) (by first | assumption | (exact hpo _) | rfl | decide) (by first | assumption | decide | omega) ?_
    rw [hk]
    refine s43_15 ?_
    refine s43_16 ?_
    refine s43_17 ?_
    refine s43_19 rfl ?_
    refine s43_20 (by first | assumption | rfl) (by first | assumption | (exact hpo _) | rfl | decide) ?_
    refine s43_23 rfl ?_
    refine s43_25 rfl ?_
    refine v_iast d43_26 (by first | assumption | rfl) (by omega) (by omega) (by omega) (by first | assumption | (exact hpo _) | rfl | decide) (by first | assumption | decide | omega) ?_
    rw [e0]
    refine s43_27 rfl ?_
    refine s43_28 (by first | assumption | rfl) (by first | assumption | (exact hpo _) | rfl | decide) ?_
    refine s43_31 rfl ?_
    refine s43_33 ?_
    refine s43_34 ?_
    refine s43_35 rfl ?_
    refine v_iast d43_36 (by first | assumption | rfl) (by omega) (by omega) (by omega) (by first | assumption | (exact hpo _) | rfl | decide) (by first | assumption | decide | omega) ?_
    rw [e1]
    refine s43_37 rfl ?_
    refine s43_38 (by first | assumption | rfl) (by first | assumption | (exact hpo _) | rfl | decide) ?_
    refine s43_41 rfl ?_
    refine s43_43 ?_
    refine s43_44 ?_
    refine s43_45 rfl ?_
    refine v_iast d43_46 (by first | assumption | rfl) (by omega) (by omega) (by omega) (by first | assumption | (exact hpo _) | rfl | decide) (by first | assumption | decide | omega) ?_
    rw [e2]
    refine s43_47 rfl ?_
    refine s43_48 (by first | assumption | rfl) (by first | assumption | (exact hpo _) | rfl | decide) ?_
    refine s43_51 rfl ?_
    refine s43_53 ?_
    refine s43_54 ?_
    refine s43_55 rfl ?_
    refine v_iast d43_57 (by first | assumption | rfl) (by omega) (by omega) (by omega) (by first | assumption | (exact hpo _) | rfl | decide) (by first | assumption | decide | omega) ?_
    rw [e3]
    refine s43_58 rfl ?_
    refine s43_59 (by first | assumption | rfl) (by first | assumption | (exact hpo _) | rfl | decide) ?_
    refine s43_62 rfl ?_
    refine s43_64 ?_
    refine s43_65 ?_
    refine s43_66 rfl ?_
    refine v_iast d43_68 (by first | assumption | rfl) (by omega) (by omega) (by omega) (by first | assumption | (exact hpo _) | rfl | decide) (by first | assumption | decide | omega) ?_
    rw [e4]
    refine s43_69 rfl ?_
    refine s43_70 rfl ?_
    refine s43_71 (by first | assumption | rfl) (by first | assumption | (exact hpo _) | rfl | decide) (by first | assumption | decide | omega) ?_
    rw [x_uf_ne (by omega), x_uf_ne (by omega), x_uf_ne (by omega), x_uf_ne (by omega), x_uf_ne (by omega), hk]
    refine s43_74 ?_
    refine s43_75 ?_
    refine s43_76 (by first | assumption | rfl) (by first | assumption | (exact hpo _) | rfl | decide) (by first | assumption | decide | omega) ?_
    refine s43_79 (st := []) ?_
    exact h
  · refine s43_10 (st := []) ?_
    exfalso; omega
theorem c44 {k : Nat} (hk : (k : Int) < g 98 1) (hk2 : g 98 1 ≤ 512) (h : Q (.inl (some (.int (I (g 99 (5 * k)))))) (x_vm g) n) : x_V S 44 0 [some (.ref 98), some (.int (I k))] [] (x_vm g) n Q := by
  have e0 : ((k : Int) * 5).toNat = 5 * k := by omega
  refine s44_0 rfl ?_
  refine s44_1 ⟨by omega, by omega⟩ (fun h1 => ?_) (fun h1 => ?_)
  · refine s44_23 ?_
    refine s44_24 (st := []) ?_
    first | (exfalso; omega) | exact h
  · refine s44_4 rfl ?_
    refine s44_5 rfl ?_
    refine s44_6 (by first | assumption | rfl) (by first | assumption | (exact hpo _) | rfl | decide) (by first | assumption | decide | omega) ?_
    refine s44_9 ⟨by omega, by omega⟩ ⟨by omega, by omega⟩ (fun h9 => ?_) (fun h9 => ?_)
    · refine s44_23 ?_
      refine s44_24 (st := []) ?_
      first | (exfalso; omega) | exact h
    · refine s44_12 rfl ?_
      refine s44_13 (by first | assumption | rfl) (by first | assumption | (exact hpo _) | rfl | decide) ?_
      refine s44_16 rfl ?_
      refine s44_17 ?_
      refine s44_18 ?_
      refine v_iald d44_19 (by first | assumption | rfl) (by omega) (by omega) (by omega) (by first | assumption | (exact hpo _) | rfl | decide) (by first | assumption | decide | omega) ?_
      rw [e0]
      refine s44_20 ?_
      refine s44_24 (st := []) ?_
      first | (exfalso; omega) | exact h
theorem c45 {k : Nat} (hm : x_msg a v) (hk : (k : Int) < g 98 1) (hk2 : g 98 1 ≤ 512) (h : Q (.inl none) (x_vm (x_say v (g 99 (5 * k + 1)) (g 99 (5 * k + 2)) (g 99 (5 * k + 3)) (g 99 (5 * k + 4)) g)) n) : x_V S 45 0 [some (.ref 98), some (.int (I k)), some (.ref a), none] [] (x_vm g) n Q := by
  have hm1 := hm.1
  have e1 : ((k : Int) * 5 + 1).toNat = 5 * k + 1 := by omega
  have e2 : ((k : Int) * 5 + 2).toNat = 5 * k + 2 := by omega
  have e3 : ((k : Int) * 5 + 3).toNat = 5 * k + 3 := by omega
  have e4 : ((k : Int) * 5 + 4).toNat = 5 * k + 4 := by omega
  refine s45_0 rfl ?_
  refine s45_1 ⟨by omega, by omega⟩ (fun h1 => ?_) (fun h1 => ?_)
  · refine s45_52 (st := []) ?_
    first | (exfalso; omega) | exact h
  · refine s45_4 rfl ?_
    refine s45_5 rfl ?_
    refine s45_6 (by first | assumption | rfl) (by first | assumption | (exact hpo _) | rfl | decide) (by first | assumption | decide | omega) ?_
    refine s45_9 ⟨by omega, by omega⟩ ⟨by omega, by omega⟩ (fun h9 => ?_) (fun h9 => ?_)
    · refine s45_52 (st := []) ?_
      first | (exfalso; omega) | exact h
    · refine s45_12 rfl ?_
      refine s45_13 ?_
      refine s45_14 ?_
      refine s45_15 ?_
      refine s45_16 rfl ?_
      refine s45_17 rfl ?_
      refine s45_18 (by first | assumption | rfl) (by first | assumption | (exact hpo _) | rfl | decide) ?_
      refine s45_21 rfl ?_
      refine s45_22 ?_
      refine s45_23 ?_
      refine v_iald d45_24 (by first | assumption | rfl) (by omega) (by omega) (by omega) (by first | assumption | (exact hpo _) | rfl | decide) (by first | assumption | decide | omega) ?_
      rw [e1]
      refine s45_25 rfl ?_
      refine s45_26 (by first | assumption | rfl) (by first | assumption | (exact hpo _) | rfl | decide) ?_
      refine s45_29 rfl ?_
      refine s45_30 ?_
      refine s45_31 ?_
      refine v_iald d45_32 (by first | assumption | rfl) (by omega) (by omega) (by omega) (by first | assumption | (exact hpo _) | rfl | decide) (by first | assumption | decide | omega) ?_
      rw [e2]
      refine s45_33 rfl ?_
      refine s45_34 (by first | assumption | rfl) (by first | assumption | (exact hpo _) | rfl | decide) ?_
      refine s45_37 rfl ?_
      refine s45_38 ?_
      refine s45_39 ?_
      refine v_iald d45_40 (by first | assumption | rfl) (by omega) (by omega) (by omega) (by first | assumption | (exact hpo _) | rfl | decide) (by first | assumption | decide | omega) ?_
      rw [e3]
      refine s45_41 rfl ?_
      refine s45_42 (by first | assumption | rfl) (by first | assumption | (exact hpo _) | rfl | decide) ?_
      refine s45_45 rfl ?_
      refine s45_46 ?_
      refine s45_47 ?_
      refine v_iald d45_48 (by first | assumption | rfl) (by omega) (by omega) (by omega) (by first | assumption | (exact hpo _) | rfl | decide) (by first | assumption | decide | omega) ?_
      rw [e4]
      refine s45_49 (by first | assumption | rfl) (by simp) ?_
      refine c23 hm ?_
      refine ⟨_, rfl, ?_⟩
      refine s45_52 (st := []) ?_
      first | (exfalso; omega) | exact h
theorem l47 {id : Int} {c : Nat} (hid : ib id) (hc : g 55 1 = c) (hc2 : c ≤ 40) (hi : ∀ i, i < c → ib (g (58 + i) 0))
    (hY : ∀ i : Nat, i < c → (∀ j, j < i → g (58 + j) 0 ≠ id) → g (58 + i) 0 = id → Q (.inl (some (.ref (58 + i)))) (x_vm g) n) (hN : (∀ j, j < c → g (58 + j) 0 ≠ id) → Q (.inl (some .null)) (x_vm g) n) :
    ∀ (d i : Nat), i + d = c → (∀ j, j < i → g (58 + j) 0 ≠ id) → x_V S 47 2 [some (.ref 55), some (.int (I id)), some (.int (I i))] [] (x_vm g) n Q := by
  obtain ⟨d1, d2⟩ := hid
  intro d
  induction d with
  | zero =>
    intro i hi2 hj
    refine s47_2 rfl ?_
    refine s47_3 rfl ?_
    refine s47_4 (by first | assumption | rfl) (by first | assumption | (exact hpo _) | rfl | decide) (by first | assumption | decide | omega) ?_
    refine s47_7 ⟨by omega, by omega⟩ ⟨by omega, by omega⟩ (fun h7 => ?_) (fun h7 => ?_)
    · refine s47_45 ?_
      refine s47_46 (st := []) (by first | exact Or.inl rfl | exact Or.inr ⟨_, rfl⟩) ?_
      refine hN fun j hj2 => hj j (by omega)
    · exfalso; omega
  | succ d ih =>
    intro i hi2 hj
    have ho := x_ordi (i := i) (by omega)
    have ho1 := ho.1
    have hpo := ho.2.1
    have ho2 := ho.2.2
    have hb := hi i (by omega)
    obtain ⟨b1, b2⟩ := hb
    refine s47_2 rfl ?_
    refine s47_3 rfl ?_
    refine s47_4 (by first | assumption | rfl) (by first | assumption | (exact hpo _) | rfl | decide) (by first | assumption | decide | omega) ?_
    refine s47_7 ⟨by omega, by omega⟩ ⟨by omega, by omega⟩ (fun h7 => ?_) (fun h7 => ?_)
    · exfalso; omega
    · refine s47_10 rfl ?_
      refine s47_11 rfl ?_
      refine s47_12 (by first | assumption | rfl) (by first | assumption | (exact hpo _) | rfl | decide) ?_
      refine v_alen d47_15 (by first | assumption | rfl) (by decide) ?_
      refine s47_16 ⟨by omega, by omega⟩ ⟨by omega, by omega⟩ (fun h16 => ?_) (fun h16 => ?_)
      · exfalso; omega
      · refine s47_19 rfl ?_
        refine s47_20 (by first | assumption | rfl) (by first | assumption | (exact hpo _) | rfl | decide) ?_
        refine s47_23 rfl ?_
        refine v_aald d47_24 rfl (by decide) (by omega) (by omega) (by omega) (x_pt56 (by omega)) ?_
        rw [Int.toNat_natCast]
        refine s47_25 (by first | assumption | rfl) (by first | assumption | (exact hpo _) | rfl | decide) (by first | assumption | decide | omega) ?_
        refine s47_28 rfl ?_
        refine s47_29 ⟨by omega, by omega⟩ ⟨by omega, by omega⟩ (fun h29 => ?_) (fun h29 => ?_)
        · refine s47_39 rfl ?_
          refine s47_42 ?_
          refine ih (i + 1) (by omega) fun j hj2 => ?_
          by_cases q : j = i
          · rw [q]; omega
          · exact hj j (by omega)
        · refine s47_32 rfl ?_
          refine s47_33 (by first | assumption | rfl) (by first | assumption | (exact hpo _) | rfl | decide) ?_
          refine s47_36 rfl ?_
          refine v_aald d47_37 rfl (by decide) (by omega) (by omega) (by omega) (x_pt56 (by omega)) ?_
          rw [Int.toNat_natCast]
          refine s47_38 (st := []) (by first | exact Or.inl rfl | exact Or.inr ⟨_, rfl⟩) ?_
          exact hY i (by omega) hj (by omega)
theorem c47 {id : Int} {c : Nat} (hid : ib id) (hc : g 55 1 = c) (hc2 : c ≤ 40) (hi : ∀ i, i < c → ib (g (58 + i) 0))
    (hY : ∀ i : Nat, i < c → (∀ j, j < i → g (58 + j) 0 ≠ id) → g (58 + i) 0 = id → Q (.inl (some (.ref (58 + i)))) (x_vm g) n) (hN : (∀ j, j < c → g (58 + j) 0 ≠ id) → Q (.inl (some .null)) (x_vm g) n) : x_V S 47 0 [some (.ref 55), some (.int (I id)), none] [] (x_vm g) n Q := by
  refine s47_0 ?_
  refine s47_1 ?_
  exact l47 hid hc hc2 hi hY hN c 0 (by omega) (fun j hj => by omega)
/-- the book's numbers are ints -/
def x_bok (g : Nat → Nat → Int) (c : Nat) : Prop := ∀ i, i < c → ib (g (58 + i) 0) ∧ ib (g (58 + i) 2) ∧ ib (g (58 + i) 3) ∧ ib (g (58 + i) 4)
theorem c48 {id : Int} {c : Nat} (hid : ib id) (hc : g 55 1 = c) (hc2 : c ≤ 40) (hi : x_bok g c)
    (hY : ∀ i : Nat, i < c → (∀ j, j < i → g (58 + j) 0 ≠ id) → g (58 + i) 0 = id → g (58 + i) 4 = 0 → g (58 + i) 3 < g (58 + i) 2 → Q (.inl (some (.ref (58 + i)))) (x_vm g) n)
    (hN : (∀ i : Nat, i < c → (∀ j, j < i → g (58 + j) 0 ≠ id) → g (58 + i) 0 = id → ¬ (g (58 + i) 4 = 0 ∧ g (58 + i) 3 < g (58 + i) 2)) → Q (.inl (some .null)) (x_vm g) n) : x_V S 48 0 [some (.ref 55), some (.int (I id)), none] [] (x_vm g) n Q := by
  refine s48_0 rfl ?_
  refine s48_1 rfl ?_
  refine s48_2 (by first | assumption | rfl) (by simp) ?_
  refine c47 hid hc hc2 (fun i h => (hi i h).1) (fun i h1 h2 h3 => ?_) (fun h1 => ?_)
  · refine ⟨_, rfl, ?_⟩
    have ho := x_ordi (i := i) (by omega)
    have ho1 := ho.1
    obtain ⟨b1, b2, b3, b4⟩ := hi i h1
    refine s48_5 ?_
    refine s48_6 rfl ?_
    refine s48_7 ?_
    refine s48_10 rfl ?_
    refine s48_11 (by first | assumption | rfl) (by simp) ?_
    refine c18 ho b2 b3 b4 ?_
    refine ⟨_, rfl, ?_⟩
    by_cases q : g (58 + i) 4 = 0 ∧ g (58 + i) 3 < g (58 + i) 2
    · rw [if_pos q]
      refine s48_14 ⟨by omega, by omega⟩ (fun z => by omega) (fun _ => ?_)
      refine s48_17 rfl ?_
      refine s48_18 ?_
      refine s48_22 (st := []) (Or.inr ⟨_, rfl⟩) ?_
      exact hY i h1 h2 h3 q.1 q.2
    · rw [if_neg q]
      refine s48_14 ⟨by omega, by omega⟩ (fun _ => ?_) (fun z => absurd rfl z)
      refine s48_21 ?_
      refine s48_22 (st := []) (Or.inl rfl) ?_
      refine hN fun i2 k1 k2 k3 => ?_
      have e : i2 = i := by
        rcases Nat.lt_trichotomy i2 i with c1 | c1 | c1
        · exact absurd k3 (h2 i2 c1)
        · exact c1
        · exact absurd h3 (k2 i c1)
      rw [e]; exact q
  · refine ⟨_, rfl, ?_⟩
    refine s48_5N ?_
    refine s48_6N rfl ?_
    refine s48_7N ?_
    refine s48_21 ?_
    refine s48_22 (st := []) (by first | exact Or.inl rfl | exact Or.inr ⟨_, rfl⟩) ?_
    exact hN fun i2 k1 k2 k3 => absurd k3 (h1 i2 k1)
end CB
