/-! 28.book: contracts of Book over the mathematical value. -/
section CK
variable {S : Nat × (Nat → Int32)} {μ : xM} {g : Nat → Nat → Int} {n a v : Nat} {Q : xQ} {y : yS} {B : Int}
theorem yfx_eq {α : Type} {p : α → Bool} {l : List α} {k : Nat} {d : α} (h : k < l.length) (hp : p (l.getD k d) = true) (hn : ∀ j, j < k → p (l.getD j d) = false) : l.findIdx p = k := by
  induction l generalizing k with
  | nil => exact absurd h (Nat.not_lt_zero _)
  | cons x l ih =>
    rw [List.findIdx_cons]
    cases k with
    | zero =>
      have : p x = true := hp
      rw [this]; rfl
    | succ k =>
      have h0 : p x = false := hn 0 (by omega)
      rw [h0]
      have := ih (k := k) (by simpa using h) hp (fun j hj => hn (j + 1) (by omega))
      rw [this]; rfl
theorem yfx_no {α : Type} {p : α → Bool} {l : List α} {d : α} (hn : ∀ j, j < l.length → p (l.getD j d) = false) : l.findIdx p = l.length := by
  induction l with
  | nil => rfl
  | cons x l ih =>
    rw [List.findIdx_cons]
    have h0 : p x = false := hn 0 (by simp)
    rw [h0, ih (fun j hj => hn (j + 1) (by simpa using hj))]
    rfl
theorem ymem {l : List Int} {x : Int} : x ∈ l ↔ ∃ i, i < l.length ∧ l.getD i 0 = x := by
  rw [List.mem_iff_getElem]
  constructor
  · rintro ⟨i, h, e⟩
    exact ⟨i, h, by simp [List.getD, h, e]⟩
  · rintro ⟨i, h, e⟩
    exact ⟨i, h, by simpa [List.getD, h] using e⟩
/-- the open order of an id: its place, or the number of orders -/
def yop (v : Int) (r : yR) : Bool := decide (r.1 = v ∧ r.2.2.2.2 = 0 ∧ r.2.2.2.1 < r.2.2.1)
def yopen (l : List yR) (v : Int) : Nat := l.findIdx (yop v)
def yfind (l : List yR) (v : Int) : Nat := l.findIdx (fun r => decide (r.1 = v))
/-- orders have ids of their own that are used, and numbers of frames -/
def yO (y : yS) : Prop := (∀ i, i < y.2.2.2.1.length → (0 ≤ (y.2.2.2.1.getD i yE).1 ∧ (y.2.2.2.1.getD i yE).1 ≤ 999999) ∧ (0 ≤ (y.2.2.2.1.getD i yE).2.1 ∧ (y.2.2.2.1.getD i yE).2.1 ≤ 2) ∧ (y.2.2.2.1.getD i yE).2.2.1 ≤ 999999 ∧ (0 ≤ (y.2.2.2.1.getD i yE).2.2.2.1 ∧ (y.2.2.2.1.getD i yE).2.2.2.1 ≤ (y.2.2.2.1.getD i yE).2.2.1) ∧ ((y.2.2.2.1.getD i yE).2.2.2.2 = 0 ∨ (y.2.2.2.1.getD i yE).2.2.2.2 = 1) ∧ (y.2.2.2.1.getD i yE).1 ∈ y.2.2.2.2)
  ∧ (∀ i j, i < y.2.2.2.1.length → j < y.2.2.2.1.length → (y.2.2.2.1.getD i yE).1 = (y.2.2.2.1.getD j yE).1 → i = j) ∧ ∀ u, u ∈ y.2.2.2.2 → 0 ≤ u ∧ u ≤ 999999
def ybook (y : yS) (l : List yR) (u : List Int) : yS := (y.1, y.2.1, y.2.2.1, l, u)
def yamend (r : yR) (t a c : Int) : yR := (a, r.2.1, if t = 70 then r.2.2.1 else c, r.2.2.2.1, if t = 70 then 1 else r.2.2.2.2)
def ycarry (y : yS) (t a b c : Int) : Option (Nat × yS) :=
  if a = 0 ∨ a ∈ y.2.2.2.2 then none
  else if t = 68 then if b < 1 ∨ 2 < b ∨ c = 0 ∨ 40 ≤ y.2.2.2.1.length then none else some (y.2.2.2.1.length, ybook y (y.2.2.2.1 ++ [(a, b, c, 0, 0)]) (y.2.2.2.2 ++ [a]))
  else if yopen y.2.2.2.1 b = y.2.2.2.1.length ∨ (t ≠ 70 ∧ c ≤ (y.2.2.2.1.getD (yopen y.2.2.2.1 b) yE).2.2.2.1) then none
  else some (yopen y.2.2.2.1 b, ybook y (y.2.2.2.1.set (yopen y.2.2.2.1 b) (yamend (y.2.2.2.1.getD (yopen y.2.2.2.1 b) yE) t a c)) (y.2.2.2.2 ++ [a]))
/-- an order's cells -/
theorem yC4.at {l : List yR} (h : yC4 g l) {i : Nat} (hi : i < l.length) : g (58 + i) 0 = (l.getD i yE).1 ∧ g (58 + i) 1 = (l.getD i yE).2.1 ∧ g (58 + i) 2 = (l.getD i yE).2.2.1 ∧ g (58 + i) 3 = (l.getD i yE).2.2.2.1 ∧ g (58 + i) 4 = (l.getD i yE).2.2.2.2 := by
  have := h.2.2.1 i hi
  exact ⟨congrArg (fun p => p.1) this, congrArg (fun p => p.2.1) this, congrArg (fun p => p.2.2.1) this, congrArg (fun p => p.2.2.2.1) this, congrArg (fun p => p.2.2.2.2) this⟩
theorem ybok (hC : yC g y) (hO : yO y) : x_bok g y.2.2.2.1.length := fun i hi => by
  have := hC.2.2.2.1.at hi
  have := hO.1 i hi
  exact ⟨⟨by omega, by omega⟩, ⟨by omega, by omega⟩, ⟨by omega, by omega⟩, ⟨by omega, by omega⟩⟩
/-- Book.find and Book.findOpen -/
theorem c47y {v : Int} (hC : yC g y) (hO : yO y) (hv : ib v) (hY : yfind y.2.2.2.1 v < y.2.2.2.1.length → (y.2.2.2.1.getD (yfind y.2.2.2.1 v) yE).1 = v → Q (.inl (some (.ref (58 + yfind y.2.2.2.1 v)))) (x_vm g) n) (hN : yfind y.2.2.2.1 v = y.2.2.2.1.length → Q (.inl (some .null)) (x_vm g) n) : x_V S 47 0 [some (.ref 55), some (.int (I v)), none] [] (x_vm g) n Q := by
  refine c47 (c := y.2.2.2.1.length) hv hC.2.2.2.1.1 hC.2.2.2.1.2.1 (fun i hi => (ybok hC hO i hi).1) (fun i h1 h2 h3 => ?_) (fun h1 => ?_)
  · have e : yfind y.2.2.2.1 v = i := yfx_eq (d := yE) h1 (decide_eq_true (by rw [← (hC.2.2.2.1.at h1).1]; exact h3)) (fun j hj => decide_eq_false (by rw [← (hC.2.2.2.1.at (Nat.lt_trans hj h1)).1]; exact h2 j hj))
    rw [e] at hY
    exact hY h1 (by rw [← (hC.2.2.2.1.at h1).1]; exact h3)
  · exact hN (yfx_no (d := yE) (fun j hj => decide_eq_false (by rw [← (hC.2.2.2.1.at hj).1]; exact h1 j hj)))
theorem c48y {v : Int} (hC : yC g y) (hO : yO y) (hv : ib v) (hY : yopen y.2.2.2.1 v < y.2.2.2.1.length → yop v (y.2.2.2.1.getD (yopen y.2.2.2.1 v) yE) = true → Q (.inl (some (.ref (58 + yopen y.2.2.2.1 v)))) (x_vm g) n) (hN : yopen y.2.2.2.1 v = y.2.2.2.1.length → Q (.inl (some .null)) (x_vm g) n) : x_V S 48 0 [some (.ref 55), some (.int (I v)), none] [] (x_vm g) n Q := by
  refine c48 (c := y.2.2.2.1.length) hv hC.2.2.2.1.1 hC.2.2.2.1.2.1 (ybok hC hO) (fun i h1 h2 h3 h4 h5 => ?_) (fun h1 => ?_)
  · have q := hC.2.2.2.1.at h1
    have p1 : yop v (y.2.2.2.1.getD i yE) = true := decide_eq_true ⟨by omega, by omega, by omega⟩
    have e : yopen y.2.2.2.1 v = i := yfx_eq (d := yE) h1 p1 (fun j hj => decide_eq_false (fun z => h2 j hj (by rw [(hC.2.2.2.1.at (Nat.lt_trans hj h1)).1]; exact z.1)))
    rw [e] at hY
    exact hY h1 p1
  · refine hN (yfx_no (d := yE) (fun j hj => decide_eq_false (fun z => ?_)))
    have q := hC.2.2.2.1.at hj
    refine h1 j hj (fun i hi e => ?_) (by omega) ⟨by omega, by omega⟩
    have q2 := hC.2.2.2.1.at (Nat.lt_trans hi hj)
    have := hO.2.1 i j (Nat.lt_trans hi hj) hj (by omega)
    omega
theorem l52 {v : Int} {c : Nat} (hv : ib v) (hc : g 55 3 = c) (hc2 : c ≤ 512) (hi : ∀ i, i < c → ib (g 57 i))
    (hY : (∃ i, i < c ∧ g 57 i = v) → Q (.inl (some (.int (I 1)))) (x_vm g) n) (hN : (∀ j, j < c → g 57 j ≠ v) → Q (.inl (some (.int (I 0)))) (x_vm g) n) :
    ∀ (d i : Nat), i + d = c → (∀ j, j < i → g 57 j ≠ v) → x_V S 52 2 [some (.ref 55), some (.int (I v)), some (.int (I i))] [] (x_vm g) n Q := by
  obtain ⟨d1, d2⟩ := hv
  intro d
  induction d with
  | zero =>
    intro i hi2 hj
    refine s52_2 rfl ?_
    refine s52_3 rfl ?_
    refine s52_4 (by first | assumption | rfl) (by first | assumption | (exact hpo _) | rfl | decide) (by first | assumption | decide | omega) ?_
    refine s52_7 ⟨by omega, by omega⟩ ⟨by omega, by omega⟩ (fun h7 => ?_) (fun h7 => ?_)
    · refine s52_37 ?_
      refine s52_38 (st := []) (by omega) ?_
      exact hN fun j hj2 => hj j (by omega)
    · exfalso; omega
  | succ d ih =>
    intro i hi2 hj
    have hb := hi i (by omega)
    obtain ⟨b1, b2⟩ := hb
    refine s52_2 rfl ?_
    refine s52_3 rfl ?_
    refine s52_4 (by first | assumption | rfl) (by first | assumption | (exact hpo _) | rfl | decide) (by first | assumption | decide | omega) ?_
    refine s52_7 ⟨by omega, by omega⟩ ⟨by omega, by omega⟩ (fun h7 => ?_) (fun h7 => ?_)
    · exfalso; omega
    · refine s52_10 rfl ?_
      refine s52_11 rfl ?_
      refine s52_12 (by first | assumption | rfl) (by first | assumption | (exact hpo _) | rfl | decide) ?_
      refine v_alen d52_15 (by first | assumption | rfl) (by decide) ?_
      refine s52_16 ⟨by omega, by omega⟩ ⟨by omega, by omega⟩ (fun h16 => ?_) (fun h16 => ?_)
      · exfalso; omega
      · refine s52_19 rfl ?_
        refine s52_20 (by first | assumption | rfl) (by first | assumption | (exact hpo _) | rfl | decide) ?_
        refine s52_23 rfl ?_
        refine v_iald d52_24 (by first | assumption | rfl) (by omega) (by omega) (by omega) (by first | assumption | (exact hpo _) | rfl | decide) (by first | assumption | decide | omega) ?_
        rw [Int.toNat_natCast]
        refine s52_25 rfl ?_
        refine s52_26 ⟨by omega, by omega⟩ ⟨by omega, by omega⟩ (fun h26 => ?_) (fun h26 => ?_)
        · refine s52_31 rfl ?_
          refine s52_34 ?_
          refine ih (i + 1) (by omega) fun j hj2 => ?_
          by_cases q : j = i
          · rw [q]; omega
          · exact hj j (by omega)
        · refine s52_29 ?_
          refine s52_30 (st := []) (by omega) ?_
          exact hY ⟨i, by omega, by omega⟩
theorem c52 {v : Int} (hC : yC g y) (hO : yO y) (hv : ib v) (h : Q (.inl (some (.int (I (if v ∈ y.2.2.2.2 then 1 else 0))))) (x_vm g) n) : x_V S 52 0 [some (.ref 55), some (.int (I v)), none] [] (x_vm g) n Q := by
  refine s52_0 ?_
  refine s52_1 ?_
  refine l52 (c := y.2.2.2.2.length) hv hC.2.2.2.2.1 hC.2.2.2.2.2.1 (fun i hi => ?_) (fun hx => ?_) (fun h1 => ?_) _ 0 (Nat.zero_add _) (fun j hj => absurd hj (Nat.not_lt_zero _))
  · rw [hC.2.2.2.2.2.2 i hi]
    have := hO.2.2 _ (ymem.2 ⟨i, hi, rfl⟩)
    exact ⟨by omega, by omega⟩
  · obtain ⟨i, h1, h2⟩ := hx
    rw [if_pos (ymem.2 ⟨i, h1, by rw [← hC.2.2.2.2.2.2 i h1]; exact h2⟩)] at h
    exact h
  · rw [if_neg (fun z => by obtain ⟨i, z1, z2⟩ := ymem.1 z; exact h1 i z1 (by rw [hC.2.2.2.2.2.2 i z1]; exact z2))] at h
    exact h
theorem c53 {v : Int} {c : Nat} (hc : g 55 3 = c) (hc2 : c < 512) (h : Q (.inl none) (x_vm (x_uf (x_uf g 57 c v) 55 3 (c + 1))) n) : x_V S 53 0 [some (.ref 55), some (.int (I v))] [] (x_vm g) n Q := by
  have e1 : x_uf g 57 c v 55 3 = c := by rw [x_uf_ne (by omega)]; exact hc
  refine s53_0 rfl ?_
  refine s53_1 (by first | assumption | rfl) (by first | assumption | (exact hpo _) | rfl | decide) (by first | assumption | decide | omega) ?_
  refine s53_4 rfl ?_
  refine s53_5 (by first | assumption | rfl) (by first | assumption | (exact hpo _) | rfl | decide) ?_
  refine v_alen d53_8 (by first | assumption | rfl) (by decide) ?_
  refine s53_9 ⟨by omega, by omega⟩ ⟨by omega, by omega⟩ (fun h9 => ?_) (fun h9 => ?_)
  · first
      | (exfalso; omega)
      | (refine s53_32 (st := []) ?_; exact h)
  · refine s53_12 rfl ?_
    refine s53_13 (by first | assumption | rfl) (by first | assumption | (exact hpo _) | rfl | decide) ?_
    refine s53_16 rfl ?_
    refine s53_17 (by first | assumption | rfl) (by first | assumption | (exact hpo _) | rfl | decide) (by first | assumption | decide | omega) ?_
    rw [hc]
    refine s53_20 rfl ?_
    refine v_iast d53_21 (by first | assumption | rfl) (by omega) (by omega) (by omega) (by first | assumption | (exact hpo _) | rfl | decide) (by first | assumption | decide | omega) ?_
    rw [Int.toNat_natCast]
    refine s53_22 rfl ?_
    refine s53_23 rfl ?_
    refine s53_24 (by first | assumption | rfl) (by first | assumption | (exact hpo _) | rfl | decide) (by first | assumption | decide | omega) ?_
    rw [e1]
    refine s53_27 ?_
    refine s53_28 ?_
    refine s53_29 (by first | assumption | rfl) (by first | assumption | (exact hpo _) | rfl | decide) (by first | assumption | decide | omega) ?_
    first
      | (exfalso; omega)
      | (refine s53_32 (st := []) ?_; exact h)
theorem c50 {b q : Int} {c : Nat} (hb : ib b) (hq : ib q) (hc : g 55 1 = c) (hc2 : c ≤ 40) (hN : (b < 1 ∨ 2 < b ∨ q = 0 ∨ 40 ≤ c) → Q (.inl (some .null)) (x_vm g) n) (hY : ¬ (b < 1 ∨ 2 < b ∨ q = 0 ∨ 40 ≤ c) → Q (.inl (some (.ref (58 + c)))) (x_vm (x_uf (x_uf (x_uf g 55 1 (c + 1)) (58 + c) 1 b) (58 + c) 2 q)) n) : x_V S 50 0 [some (.ref 55), some (.int (I b)), some (.int (I q)), none] [] (x_vm g) n Q := by
  obtain ⟨b1, b2⟩ := hb
  obtain ⟨b3, b4⟩ := hq
  refine s50_0 rfl ?_
  refine s50_1 ?_
  refine s50_2 ⟨by omega, by omega⟩ ⟨by omega, by omega⟩ (fun h2 => ?_) (fun h2 => ?_)
  · refine s50_23 ?_
    refine s50_24 (st := []) (by first | exact Or.inl rfl | exact Or.inr ⟨_, rfl⟩) ?_
    exact hN (by omega)
  · refine s50_5 rfl ?_
    refine s50_6 ?_
    refine s50_7 ⟨by omega, by omega⟩ ⟨by omega, by omega⟩ (fun h7 => ?_) (fun h7 => ?_)
    · refine s50_23 ?_
      refine s50_24 (st := []) (by first | exact Or.inl rfl | exact Or.inr ⟨_, rfl⟩) ?_
      exact hN (by omega)
    · refine s50_10 rfl ?_
      refine s50_11 ⟨by omega, by omega⟩ (fun h11 => ?_) (fun h11 => ?_)
      · refine s50_23 ?_
        refine s50_24 (st := []) (by first | exact Or.inl rfl | exact Or.inr ⟨_, rfl⟩) ?_
        exact hN (by omega)
      · refine s50_14 rfl ?_
        refine s50_15 (by first | assumption | rfl) (by first | assumption | (exact hpo _) | rfl | decide) (by first | assumption | decide | omega) ?_
        refine s50_18 ?_
        refine s50_20 ⟨by omega, by omega⟩ ⟨by omega, by omega⟩ (fun h20 => ?_) (fun h20 => ?_)
        · have ho := x_ordi (i := c) (by omega)
          have ho1 := ho.1
          have hpo := ho.2.1
          have ho2 := ho.2.2
          refine s50_25 rfl ?_
          refine s50_26 (by first | assumption | rfl) (by first | assumption | (exact hpo _) | rfl | decide) ?_
          refine s50_29 rfl ?_
          refine s50_30 (by first | assumption | rfl) (by first | assumption | (exact hpo _) | rfl | decide) (by first | assumption | decide | omega) ?_
          rw [hc]
          refine v_aald d50_33 rfl (by decide) (by omega) (by omega) (by omega) (x_pt56 (by omega)) ?_
          rw [Int.toNat_natCast]
          refine s50_34 ?_
          refine s50_35 rfl ?_
          refine s50_36 rfl ?_
          refine s50_37 (by first | assumption | rfl) (by first | assumption | (exact hpo _) | rfl | decide) (by first | assumption | decide | omega) ?_
          rw [hc]
          refine s50_40 ?_
          refine s50_41 ?_
          refine s50_42 (by first | assumption | rfl) (by first | assumption | (exact hpo _) | rfl | decide) (by first | assumption | decide | omega) ?_
          refine s50_45 rfl ?_
          refine s50_46 rfl ?_
          refine s50_47 (by first | assumption | rfl) (by first | assumption | (exact hpo _) | rfl | decide) (by first | assumption | decide | omega) ?_
          refine s50_50 rfl ?_
          refine s50_51 rfl ?_
          refine s50_52 (by first | assumption | rfl) (by first | assumption | (exact hpo _) | rfl | decide) (by first | assumption | decide | omega) ?_
          refine s50_55 rfl ?_
          refine s50_56 (st := []) (by first | exact Or.inl rfl | exact Or.inr ⟨_, rfl⟩) ?_
          exact hY (by omega)
        · refine s50_23 ?_
          refine s50_24 (st := []) (by first | exact Or.inl rfl | exact Or.inr ⟨_, rfl⟩) ?_
          exact hN (by omega)
theorem c51 {b q d : Int} (hC : yC g y) (hO : yO y) (hb : ib b) (hq : ib q) (hd : d = 0 ∨ d = 1)
    (hN : (yopen y.2.2.2.1 b = y.2.2.2.1.length ∨ (d = 0 ∧ q ≤ (y.2.2.2.1.getD (yopen y.2.2.2.1 b) yE).2.2.2.1)) → Q (.inl (some .null)) (x_vm g) n)
    (hY : yopen y.2.2.2.1 b < y.2.2.2.1.length → ¬ (d = 0 ∧ q ≤ (y.2.2.2.1.getD (yopen y.2.2.2.1 b) yE).2.2.2.1) → Q (.inl (some (.ref (58 + yopen y.2.2.2.1 b)))) (x_vm (if d = 1 then x_uf g (58 + yopen y.2.2.2.1 b) 4 1 else x_uf g (58 + yopen y.2.2.2.1 b) 2 q)) n) : x_V S 51 0 [some (.ref 55), some (.int (I b)), some (.int (I d)), some (.int (I q)), none] [] (x_vm g) n Q := by
  refine s51_0 rfl ?_
  refine s51_1 rfl ?_
  refine s51_2 rfl (by simp) ?_
  obtain ⟨b3, b4⟩ := hq
  refine c48y hC hO hb (fun h1 h2 => ?_) (fun h1 => ?_)
  · refine ⟨_, rfl, ?_⟩
    have h40 := hC.2.2.2.1.2.1
    generalize ek : yopen y.2.2.2.1 b = k at h1 h2 hN hY
    have ho := x_ordi (i := k) (by omega)
    have ho1 := ho.1
    have hpo := ho.2.1
    have ho2 := ho.2.2
    have e3 := (hC.2.2.2.1.at h1).2.2.2.1
    have b5 := hO.1 k h1
    refine s51_5 ?_
    refine s51_7 rfl ?_
    refine s51_9 ?_
    refine s51_12 rfl ?_
    refine s51_13 ⟨by omega, by omega⟩ (fun h13 => ?_) (fun h13 => ?_)
    · refine s51_27 rfl ?_
      refine s51_28 ⟨by omega, by omega⟩ (fun h28 => ?_) (fun h28 => ?_)
      · refine s51_40 rfl ?_
        refine s51_42 rfl ?_
        refine s51_43 (by first | assumption | rfl) (by first | assumption | (exact hpo _) | rfl | decide) (by first | assumption | decide | omega) ?_
        refine s51_46 rfl ?_
        refine s51_48 (st := []) (by first | exact Or.inl rfl | exact Or.inr ⟨_, rfl⟩) ?_
        have hY := hY h1 (by omega)
        first
          | (rw [if_pos (show d = 1 by omega)] at hY; exact hY)
          | (rw [if_neg (show ¬ d = 1 by omega)] at hY; exact hY)
      · refine s51_31 rfl ?_
        refine s51_33 ?_
        refine s51_34 (by first | assumption | rfl) (by omega) (by first | assumption | (exact hpo _) | rfl | decide) (by first | assumption | decide | omega) ?_
        refine s51_37 ?_
        refine s51_46 rfl ?_
        refine s51_48 (st := []) (by first | exact Or.inl rfl | exact Or.inr ⟨_, rfl⟩) ?_
        have hY := hY h1 (by omega)
        first
          | (rw [if_pos (show d = 1 by omega)] at hY; exact hY)
          | (rw [if_neg (show ¬ d = 1 by omega)] at hY; exact hY)
    · refine s51_16 rfl ?_
      refine s51_17 rfl ?_
      refine s51_19 (by first | assumption | rfl) (by first | assumption | (exact hpo _) | rfl | decide) (by first | assumption | decide | omega) ?_
      refine s51_22 ⟨by omega, by omega⟩ ⟨by omega, by omega⟩ (fun h22 => ?_) (fun h22 => ?_)
      · refine s51_27 rfl ?_
        refine s51_28 ⟨by omega, by omega⟩ (fun h28 => ?_) (fun h28 => ?_)
        · refine s51_40 rfl ?_
          refine s51_42 rfl ?_
          refine s51_43 (by first | assumption | rfl) (by first | assumption | (exact hpo _) | rfl | decide) (by first | assumption | decide | omega) ?_
          refine s51_46 rfl ?_
          refine s51_48 (st := []) (by first | exact Or.inl rfl | exact Or.inr ⟨_, rfl⟩) ?_
          have hY := hY h1 (by omega)
          first
            | (rw [if_pos (show d = 1 by omega)] at hY; exact hY)
            | (rw [if_neg (show ¬ d = 1 by omega)] at hY; exact hY)
        · refine s51_31 rfl ?_
          refine s51_33 ?_
          refine s51_34 (by first | assumption | rfl) (by omega) (by first | assumption | (exact hpo _) | rfl | decide) (by first | assumption | decide | omega) ?_
          refine s51_37 ?_
          refine s51_46 rfl ?_
          refine s51_48 (st := []) (by first | exact Or.inl rfl | exact Or.inr ⟨_, rfl⟩) ?_
          have hY := hY h1 (by omega)
          first
            | (rw [if_pos (show d = 1 by omega)] at hY; exact hY)
            | (rw [if_neg (show ¬ d = 1 by omega)] at hY; exact hY)
      · refine s51_25 ?_
        refine s51_26 (st := []) (by first | exact Or.inl rfl | exact Or.inr ⟨_, rfl⟩) ?_
        exact hN (by omega)
  · refine ⟨_, rfl, ?_⟩
    refine s51_5N ?_
    refine s51_7N rfl ?_
    refine s51_9N ?_
    refine s51_25 ?_
    refine s51_26 (st := []) (by first | exact Or.inl rfl | exact Or.inr ⟨_, rfl⟩) ?_
    exact hN (Or.inl h1)
theorem ygd_app {α : Type} {l : List α} {x d : α} {i : Nat} : (l ++ [x]).getD i d = if i < l.length then l.getD i d else if i = l.length then x else d := by
  simp only [List.getD_eq_getElem?_getD]
  by_cases h : i < l.length
  · rw [if_pos h, List.getElem?_append_left h]
  · rw [if_neg h, List.getElem?_append_right (by omega)]
    by_cases q : i = l.length
    · rw [if_pos q, q]; simp
    · rw [if_neg q, List.getElem?_eq_none (by simp; omega)]; rfl
theorem ygd_set {α : Type} {l : List α} {x d : α} {i k : Nat} (hk : k < l.length) : (l.set k x).getD i d = if i = k then x else l.getD i d := by
  simp only [List.getD_eq_getElem?_getD]
  by_cases q : i = k
  · rw [if_pos q, q, List.getElem?_set_self hk]; rfl
  · rw [if_neg q, List.getElem?_set_ne (fun e => q e.symm)]
theorem yC4.put {gm : Nat → Nat → Int} {l : List yR} {k : Nat} {r0 r1 r2 r3 r4 : Int} (h : yC4 g l) (hk : k < l.length) (e0 : gm (58 + k) 0 = r0) (e1 : gm (58 + k) 1 = r1) (e2 : gm (58 + k) 2 = r2) (e3 : gm (58 + k) 3 = r3) (e4 : gm (58 + k) 4 = r4) (e : ∀ b i, b ≠ 58 + k → gm b i = g b i) : yC4 gm (l.set k (r0, r1, r2, r3, r4)) := by
  refine ⟨by rw [e _ _ (by omega), List.length_set]; exact h.1, by rw [List.length_set]; exact h.2.1, fun i hi => ?_, fun i h1 h2 => ?_⟩
  · rw [List.length_set] at hi
    rw [ygd_set hk]
    by_cases q : i = k
    · rw [if_pos q, q, e0, e1, e2, e3, e4]
    · rw [if_neg q, e _ _ (by omega), e _ _ (by omega), e _ _ (by omega), e _ _ (by omega), e _ _ (by omega)]
      exact h.2.2.1 i hi
  · rw [List.length_set] at h1
    rw [e _ _ (by omega), e _ _ (by omega)]
    exact h.2.2.2 i h1 h2
theorem yC4.new {gm : Nat → Nat → Int} {l : List yR} {r0 r1 r2 : Int} (h : yC4 g l) (hk : l.length < 40) (e0 : gm (58 + l.length) 0 = r0) (e1 : gm (58 + l.length) 1 = r1) (e2 : gm (58 + l.length) 2 = r2) (e3 : ∀ i, 3 ≤ i → gm (58 + l.length) i = g (58 + l.length) i) (ec : gm 55 1 = l.length + 1) (e : ∀ b i, 58 ≤ b → b ≠ 58 + l.length → gm b i = g b i) : yC4 gm (l ++ [(r0, r1, r2, 0, 0)]) := by
  have z := h.2.2.2 l.length (Nat.le_refl _) hk
  refine ⟨by rw [ec, List.length_append]; rfl, by rw [List.length_append]; exact hk, fun i hi => ?_, fun i h1 h2 => ?_⟩
  · rw [List.length_append, List.length_singleton] at hi
    rw [ygd_app]
    by_cases q : i < l.length
    · rw [if_pos q, e _ _ (by omega) (by omega), e _ _ (by omega) (by omega), e _ _ (by omega) (by omega), e _ _ (by omega) (by omega), e _ _ (by omega) (by omega)]
      exact h.2.2.1 i q
    · have q2 : i = l.length := by omega
      rw [if_neg q, if_pos q2, q2, e0, e1, e2, e3 3 (by omega), e3 4 (by omega), z.1, z.2]
  · rw [List.length_append, List.length_singleton] at h1
    rw [e _ _ (by omega) (by omega), e _ _ (by omega) (by omega)]
    exact h.2.2.2 i (by omega) h2
theorem yC.bk {gm : Nat → Nat → Int} {l : List yR} {u : Nat} {x : Int} (h : yC g y) (hu : y.2.2.2.2.length = u) (hu2 : u < 512) (h4 : yC4 gm l) (e : ∀ b i, (b < 55 ∨ b = 57 ∨ 98 ≤ b) → gm b i = g b i) : yC (x_uf (x_uf gm 57 u x) 55 3 (u + 1)) (ybook y l (y.2.2.2.2 ++ [x])) := by
  obtain ⟨h1, h2, h3, h4', h5⟩ := h
  have e2 : ∀ b i, b ≠ 57 → ¬ (b = 55 ∧ i = 3) → x_uf (x_uf gm 57 u x) 55 3 (u + 1) b i = gm b i := fun b i q1 q2 => by rw [x_uf_ne q2, x_uf_ne (fun z => q1 z.1)]
  refine ⟨fun j q1 q2 => by rw [e2 _ _ (by omega) (by omega), e _ _ (by omega)]; exact h1 j q1 q2, h2.eq (fun a i _ _ _ _ => by rw [e2 _ _ (by omega) (by omega), e _ _ (by omega)]), h3.eq (fun a i _ => by rw [e2 _ _ (by omega) (by omega), e _ _ (by omega)]), h4.eq (e2 _ _ (by omega) (by omega)) (fun a i _ _ => e2 _ _ (by omega) (by omega)), ⟨?_, ?_, fun i hi => ?_⟩⟩
  · show x_uf (x_uf gm 57 u x) 55 3 (u + 1) 55 3 = ((y.2.2.2.2 ++ [x]).length : Int)
    rw [x_uf_eq, List.length_append, hu]
    rfl
  · show (y.2.2.2.2 ++ [x]).length ≤ 512
    rw [List.length_append, hu]
    exact hu2
  · have hi : i < (y.2.2.2.2 ++ [x]).length := hi
    rw [List.length_append, List.length_singleton] at hi
    show x_uf (x_uf gm 57 u x) 55 3 (u + 1) 57 i = (y.2.2.2.2 ++ [x]).getD i 0
    rw [ygd_app, x_uf_ne (by omega)]
    by_cases q : i < y.2.2.2.2.length
    · rw [if_pos q, x_uf_ne (by omega), e _ _ (by omega)]
      exact h5.2.2 i q
    · have q2 : i = u := by omega
      rw [if_neg q, if_pos (by omega), q2, x_uf_eq]
theorem c49 {t a b c : Int} (hC : yC g y) (hO : yO y) (hu : y.2.2.2.2.length < 512) (et : g 6 0 = t) (ea : g 7 0 = a) (eb : g 7 1 = b) (ec : g 7 2 = c) (ht : ib t) (ha : ib a) (hb : ib b) (hc : ib c)
    (hN : ycarry y t a b c = none → Q (.inl (some .null)) (x_vm g) n)
    (hY : ∀ k y' g', ycarry y t a b c = some (k, y') → yC g' y' → yF g g' → Q (.inl (some (.ref (58 + k)))) (x_vm g') n) : x_V S 49 0 [some (.ref 55), some (.ref 6), none, none] [] (x_vm g) n Q := by
  have ha2 := ha
  have hb2 := hb
  have hc2 := hc
  obtain ⟨t1, t2⟩ := ht
  obtain ⟨a1, a2⟩ := ha
  obtain ⟨b1, b2⟩ := hb
  obtain ⟨c1, c2⟩ := hc
  have ea' : g 7 (Int.toNat 0) = a := ea
  have eb' : g 7 (Int.toNat 1) = b := eb
  have ec' : g 7 (Int.toNat 2) = c := ec
  have h40 := hC.2.2.2.1.2.1
  have h55 := hC.2.2.2.1.1
  have e553 := hC.2.2.2.2.1
  unfold ycarry at hN hY
  have pN : ∀ w : Option Value, Q (.inl (some .null)) (x_vm g) n → x_V S 49 79 [some (.ref 55), some (.ref 6), some (.int (I a)), w] [.null] (x_vm g) n Q := by
    intro w h
    refine s49_79N ?_
    refine s49_80N rfl ?_
    refine s49_81N ?_
    refine s49_94N rfl ?_
    refine s49_95 (st := []) (by first | exact Or.inl rfl | exact Or.inr ⟨_, rfl⟩) ?_
    exact h
  have pY : ∀ (w : Option Value) (k : Nat) (gm : Nat → Nat → Int), k < 40 → gm 55 3 = g 55 3 → Q (.inl (some (.ref (58 + k)))) (x_vm (x_uf (x_uf (x_uf gm (58 + k) 0 a) 57 y.2.2.2.2.length a) 55 3 (y.2.2.2.2.length + 1))) n → x_V S 49 79 [some (.ref 55), some (.ref 6), some (.int (I a)), w] [.ref (58 + k)] (x_vm gm) n Q := by
    intro w k gm hk e h
    have ho := x_ordi (i := k) (by omega)
    have ho1 := ho.1
    have hpo := ho.2.1
    have ho2 := ho.2.2
    refine s49_79 ?_
    refine s49_80 rfl ?_
    refine s49_81 ?_
    refine s49_84 rfl ?_
    refine s49_85 rfl ?_
    refine s49_86 (by first | assumption | rfl) (by first | assumption | (exact hpo _) | rfl | decide) (by first | assumption | decide | omega) ?_
    refine s49_89 rfl ?_
    refine s49_90 rfl ?_
    refine s49_91 (by first | assumption | rfl) (by simp) ?_
    refine c53 (c := y.2.2.2.2.length) (by rw [x_uf_ne (by omega), e]; exact e553) hu ?_
    refine ⟨_, rfl, ?_⟩
    refine s49_94 rfl ?_
    refine s49_95 (st := []) (by first | exact Or.inl rfl | exact Or.inr ⟨_, rfl⟩) ?_
    exact h
  refine s49_0 rfl ?_
  refine s49_1 (by first | assumption | rfl) (by first | assumption | (exact hpo _) | rfl | decide) ?_
  refine s49_4 ?_
  refine v_iald d49_5 (by first | assumption | rfl) (by omega) (by omega) (by omega) (by first | assumption | (exact hpo _) | rfl | decide) (by first | assumption | decide | omega) ?_
  rw [ea']
  refine s49_6 ?_
  refine s49_7 rfl ?_
  refine s49_8 ⟨by omega, by omega⟩ (fun h8 => ?_) (fun h8 => ?_)
  · refine s49_19 ?_
    refine s49_20 (st := []) (by first | exact Or.inl rfl | exact Or.inr ⟨_, rfl⟩) ?_
    refine hN ?_
    first
      | exact if_pos (Or.inl (by omega))
      | exact if_pos (Or.inr (hz1 (by omega)))
  · refine s49_11 rfl ?_
    refine s49_12 rfl ?_
    refine s49_13 (by first | assumption | rfl) (by simp) ?_
    refine c52 hC hO ha2 ?_
    refine ⟨_, rfl, ?_⟩
    have hz0 : (if a ∈ y.2.2.2.2 then (1 : Int) else 0) = 0 → a ∉ y.2.2.2.2 := fun e q => by rw [if_pos q] at e; omega
    have hz1 : (if a ∈ y.2.2.2.2 then (1 : Int) else 0) ≠ 0 → a ∈ y.2.2.2.2 := fun e => Classical.byContradiction fun q => e (if_neg q)
    have hz2 : (if a ∈ y.2.2.2.2 then (1 : Int) else 0) = 0 ∨ (if a ∈ y.2.2.2.2 then (1 : Int) else 0) = 1 := by
      split
      · exact Or.inr rfl
      · exact Or.inl rfl
    generalize (if a ∈ y.2.2.2.2 then (1 : Int) else 0) = z at hz0 hz1 hz2
    refine s49_16 ⟨by omega, by omega⟩ (fun h16 => ?_) (fun h16 => ?_)
    · refine s49_21 rfl ?_
      refine s49_22 (by first | assumption | rfl) (by first | assumption | (exact hpo _) | rfl | decide) (by first | assumption | decide | omega) ?_
      rw [et]
      refine s49_25 ?_
      refine s49_27 ⟨by omega, by omega⟩ ⟨by omega, by omega⟩ (fun h27 => ?_) (fun h27 => ?_)
      · refine s49_49 rfl ?_
        refine s49_50 rfl ?_
        refine s49_51 (by first | assumption | rfl) (by first | assumption | (exact hpo _) | rfl | decide) ?_
        refine s49_54 ?_
        refine v_iald d49_55 (by first | assumption | rfl) (by omega) (by omega) (by omega) (by first | assumption | (exact hpo _) | rfl | decide) (by first | assumption | decide | omega) ?_
        rw [eb']
        refine s49_56 rfl ?_
        refine s49_57 (by first | assumption | rfl) (by first | assumption | (exact hpo _) | rfl | decide) (by first | assumption | decide | omega) ?_
        rw [et]
        refine s49_60 ?_
        refine s49_62 ⟨by omega, by omega⟩ ⟨by omega, by omega⟩ (fun h62 => ?_) (fun h62 => ?_)
        · refine s49_69 ?_
          refine s49_70 rfl ?_
          refine s49_71 (by first | assumption | rfl) (by first | assumption | (exact hpo _) | rfl | decide) ?_
          refine s49_74 ?_
          refine v_iald d49_75 (by first | assumption | rfl) (by omega) (by omega) (by omega) (by first | assumption | (exact hpo _) | rfl | decide) (by first | assumption | decide | omega) ?_
          rw [ec']
          refine s49_76 (by first | assumption | rfl) (by simp) ?_
          rw [if_neg (fun q : a = 0 ∨ a ∈ y.2.2.2.2 => q.elim (by omega) (hz0 (by omega)))] at hN hY
          rw [if_neg (show ¬ t = 68 by omega)] at hN hY
          refine c51 hC hO hb2 hc2 (by first | exact Or.inl rfl | exact Or.inr rfl) (fun q => ?_) (fun q1 q2 => ?_)
          · refine ⟨_, rfl, ?_⟩
            refine pN _ (hN (if_pos (q.imp id (fun z => ⟨by omega, z.2⟩))))
          · refine ⟨_, rfl, ?_⟩
            have qa := hC.2.2.2.1.at q1
            have hY2 := fun g' => hY _ _ g' (if_neg (fun z => z.elim (fun z1 => by omega) (fun z1 => q2 ⟨by omega, z1.2⟩)))
            unfold yamend at hY2
            first
              | (rw [if_neg (show ¬ t = 70 by omega), if_neg (show ¬ t = 70 by omega)] at hY2
                 rw [if_neg (show ¬ (0 : Int) = 1 by omega)]
                 refine pY _ _ _ (by omega) (x_uf_ne (by omega)) (hY2 _ (hC.bk rfl hu (hC.2.2.2.1.put q1 (x_uf_eq _ _ _ _) (by rw [x_uf_ne (by omega), x_uf_ne (by omega)]; exact qa.2.1) (by rw [x_uf_ne (by omega), x_uf_eq]) (by rw [x_uf_ne (by omega), x_uf_ne (by omega)]; exact qa.2.2.2.1) (by rw [x_uf_ne (by omega), x_uf_ne (by omega)]; exact qa.2.2.2.2) (fun b i hb => by rw [x_uf_ne (by omega), x_uf_ne (by omega)])) (fun b i hb => by rw [x_uf_ne (by omega), x_uf_ne (by omega)])) (fun b i hb => by rw [x_uf_ne (by omega), x_uf_ne (by omega), x_uf_ne (by omega), x_uf_ne (by omega)])))
              | (rw [if_pos (show t = 70 by omega), if_pos (show t = 70 by omega)] at hY2
                 rw [if_pos (show (1 : Int) = 1 from rfl)]
                 refine pY _ _ _ (by omega) (x_uf_ne (by omega)) (hY2 _ (hC.bk rfl hu (hC.2.2.2.1.put q1 (x_uf_eq _ _ _ _) (by rw [x_uf_ne (by omega), x_uf_ne (by omega)]; exact qa.2.1) (by rw [x_uf_ne (by omega), x_uf_ne (by omega)]; exact qa.2.2.1) (by rw [x_uf_ne (by omega), x_uf_ne (by omega)]; exact qa.2.2.2.1) (by rw [x_uf_ne (by omega), x_uf_eq]) (fun b i hb => by rw [x_uf_ne (by omega), x_uf_ne (by omega)])) (fun b i hb => by rw [x_uf_ne (by omega), x_uf_ne (by omega)])) (fun b i hb => by rw [x_uf_ne (by omega), x_uf_ne (by omega), x_uf_ne (by omega), x_uf_ne (by omega)])))
        · refine s49_65 ?_
          refine s49_66 ?_
          refine s49_70 rfl ?_
          refine s49_71 (by first | assumption | rfl) (by first | assumption | (exact hpo _) | rfl | decide) ?_
          refine s49_74 ?_
          refine v_iald d49_75 (by first | assumption | rfl) (by omega) (by omega) (by omega) (by first | assumption | (exact hpo _) | rfl | decide) (by first | assumption | decide | omega) ?_
          rw [ec']
          refine s49_76 (by first | assumption | rfl) (by simp) ?_
          rw [if_neg (fun q : a = 0 ∨ a ∈ y.2.2.2.2 => q.elim (by omega) (hz0 (by omega)))] at hN hY
          rw [if_neg (show ¬ t = 68 by omega)] at hN hY
          refine c51 hC hO hb2 hc2 (by first | exact Or.inl rfl | exact Or.inr rfl) (fun q => ?_) (fun q1 q2 => ?_)
          · refine ⟨_, rfl, ?_⟩
            refine pN _ (hN (if_pos (q.imp id (fun z => ⟨by omega, z.2⟩))))
          · refine ⟨_, rfl, ?_⟩
            have qa := hC.2.2.2.1.at q1
            have hY2 := fun g' => hY _ _ g' (if_neg (fun z => z.elim (fun z1 => by omega) (fun z1 => q2 ⟨by omega, z1.2⟩)))
            unfold yamend at hY2
            first
              | (rw [if_neg (show ¬ t = 70 by omega), if_neg (show ¬ t = 70 by omega)] at hY2
                 rw [if_neg (show ¬ (0 : Int) = 1 by omega)]
                 refine pY _ _ _ (by omega) (x_uf_ne (by omega)) (hY2 _ (hC.bk rfl hu (hC.2.2.2.1.put q1 (x_uf_eq _ _ _ _) (by rw [x_uf_ne (by omega), x_uf_ne (by omega)]; exact qa.2.1) (by rw [x_uf_ne (by omega), x_uf_eq]) (by rw [x_uf_ne (by omega), x_uf_ne (by omega)]; exact qa.2.2.2.1) (by rw [x_uf_ne (by omega), x_uf_ne (by omega)]; exact qa.2.2.2.2) (fun b i hb => by rw [x_uf_ne (by omega), x_uf_ne (by omega)])) (fun b i hb => by rw [x_uf_ne (by omega), x_uf_ne (by omega)])) (fun b i hb => by rw [x_uf_ne (by omega), x_uf_ne (by omega), x_uf_ne (by omega), x_uf_ne (by omega)])))
              | (rw [if_pos (show t = 70 by omega), if_pos (show t = 70 by omega)] at hY2
                 rw [if_pos (show (1 : Int) = 1 from rfl)]
                 refine pY _ _ _ (by omega) (x_uf_ne (by omega)) (hY2 _ (hC.bk rfl hu (hC.2.2.2.1.put q1 (x_uf_eq _ _ _ _) (by rw [x_uf_ne (by omega), x_uf_ne (by omega)]; exact qa.2.1) (by rw [x_uf_ne (by omega), x_uf_ne (by omega)]; exact qa.2.2.1) (by rw [x_uf_ne (by omega), x_uf_ne (by omega)]; exact qa.2.2.2.1) (by rw [x_uf_ne (by omega), x_uf_eq]) (fun b i hb => by rw [x_uf_ne (by omega), x_uf_ne (by omega)])) (fun b i hb => by rw [x_uf_ne (by omega), x_uf_ne (by omega)])) (fun b i hb => by rw [x_uf_ne (by omega), x_uf_ne (by omega), x_uf_ne (by omega), x_uf_ne (by omega)])))
      · refine s49_30 rfl ?_
        refine s49_31 rfl ?_
        refine s49_32 (by first | assumption | rfl) (by first | assumption | (exact hpo _) | rfl | decide) ?_
        refine s49_35 ?_
        refine v_iald d49_36 (by first | assumption | rfl) (by omega) (by omega) (by omega) (by first | assumption | (exact hpo _) | rfl | decide) (by first | assumption | decide | omega) ?_
        rw [eb']
        refine s49_37 rfl ?_
        refine s49_38 (by first | assumption | rfl) (by first | assumption | (exact hpo _) | rfl | decide) ?_
        refine s49_41 ?_
        refine v_iald d49_42 (by first | assumption | rfl) (by omega) (by omega) (by omega) (by first | assumption | (exact hpo _) | rfl | decide) (by first | assumption | decide | omega) ?_
        rw [ec']
        refine s49_43 (by first | assumption | rfl) (by simp) ?_
        rw [if_neg (fun q : a = 0 ∨ a ∈ y.2.2.2.2 => q.elim (by omega) (hz0 (by omega)))] at hN hY
        rw [if_pos (show t = 68 by omega)] at hN hY
        refine c50 hb2 hc2 h55 h40 (fun q => ?_) (fun q => ?_)
        · refine ⟨_, rfl, ?_⟩
          refine s49_46 ?_
          exact pN _ (hN (if_pos q))
        · refine ⟨_, rfl, ?_⟩
          refine s49_46 ?_
          refine pY _ _ _ (by omega) (by rw [x_uf_ne (by omega), x_uf_ne (by omega), x_uf_ne (by omega)]) (hY _ _ _ (if_neg q) (hC.bk rfl hu (hC.2.2.2.1.new (by omega) (x_uf_eq _ _ _ _) (by rw [x_uf_ne (by omega), x_uf_ne (by omega), x_uf_eq]) (by rw [x_uf_ne (by omega), x_uf_eq]) (fun i hi => by rw [x_uf_ne (by omega), x_uf_ne (by omega), x_uf_ne (by omega), x_uf_ne (by omega)]) (by rw [x_uf_ne (by omega), x_uf_ne (by omega), x_uf_ne (by omega), x_uf_eq]) (fun b i h1 h2 => by rw [x_uf_ne (by omega), x_uf_ne (by omega), x_uf_ne (by omega), x_uf_ne (by omega)])) (fun b i hb => by rw [x_uf_ne (by omega), x_uf_ne (by omega), x_uf_ne (by omega), x_uf_ne (by omega)])) (fun b i hb => by rw [x_uf_ne (by omega), x_uf_ne (by omega), x_uf_ne (by omega), x_uf_ne (by omega), x_uf_ne (by omega), x_uf_ne (by omega)]))
    · refine s49_19 ?_
      refine s49_20 (st := []) (by first | exact Or.inl rfl | exact Or.inr ⟨_, rfl⟩) ?_
      refine hN ?_
      first
        | exact if_pos (Or.inl (by omega))
        | exact if_pos (Or.inr (hz1 (by omega)))
end CK
