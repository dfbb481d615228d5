/-! 45.model: how the reference holds the value; goes. -/
section MS
variable {S : Nat × (Nat → Int32)} {μ : xM} {g : Nat → Nat → Int} {n : Nat} {Q : xQ} {y : yS} {B : Int}
/-- where the reference keeps the scalars -/
def mf (j : Nat) : Nat := if j = 3 then 20 else if j = 4 then 21 else if j = 5 then 26 else if j = 6 then 19 else if j = 7 then 22 else if j = 8 then 36 else if j = 9 then 23 else if j = 10 then 24 else 25
theorem mf_b {j : Nat} (h1 : 3 ≤ j) (h2 : j ≤ 11) : (mf j = 20 ∧ j = 3) ∨ (mf j = 21 ∧ j = 4) ∨ (mf j = 26 ∧ j = 5) ∨ (mf j = 19 ∧ j = 6) ∨ (mf j = 22 ∧ j = 7) ∨ (mf j = 36 ∧ j = 8) ∨ (mf j = 23 ∧ j = 9) ∨ (mf j = 24 ∧ j = 10) ∨ (mf j = 25 ∧ j = 11) := by
  have : j = 3 ∨ j = 4 ∨ j = 5 ∨ j = 6 ∨ j = 7 ∨ j = 8 ∨ j = 9 ∨ j = 10 ∨ j = 11 := by omega
  rcases this with e | e | e | e | e | e | e | e | e <;> subst e <;> decide
def rC1 (g : Nat → Nat → Int) (s : Nat → Int) : Prop := ∀ j, 3 ≤ j → j ≤ 11 → g 100 (mf j) = s j
def rC2 (g : Nat → Nat → Int) (l : List yM) : Prop := g 100 15 = l.length ∧ ∀ k, k < 20 → k < l.length → g 106 k = (yfr (l.getD k yD)).length ∧ ∀ i, i < (yfr (l.getD k yD)).length → g 105 (120 * k + i) = (yfr (l.getD k yD)).getD i 0
def rC3 (g : Nat → Nat → Int) (x : Int) (l : List yR) : Prop := ∀ j : Nat, 1 ≤ j → (j : Int) < x → (g 107 j = 1 ∧ ((j : Int), g 108 (4 * j), g 108 (4 * j + 1), g 108 (4 * j + 2), g 108 (4 * j + 3)) ∈ l) ∨ (g 107 j = 0 ∧ ∀ r ∈ l, r.1 ≠ (j : Int))
def rC4 (g : Nat → Nat → Int) (l : List yR) : Prop := g 100 29 = l.length ∧ l.length ≤ 40 ∧ ∀ i, i < l.length → (g 109 i, g 110 i, g 111 i, g 112 i, g 113 i) = l.getD i yE
def rC5 (g : Nat → Nat → Int) (u : List Int) : Prop := g 100 35 = u.length ∧ u.length ≤ 512 ∧ ∀ i, i < u.length → g 114 i = u.getD i 0
def rC (g : Nat → Nat → Int) (y : yS) : Prop := rC1 g y.1 ∧ rC2 g y.2.1 ∧ rC3 g (y.1 4) y.2.2.1 ∧ rC4 g y.2.2.2.1 ∧ rC5 g y.2.2.2.2
/-- what a frame that goes leaves alone -/
def rG (g g' : Nat → Nat → Int) : Prop := ∀ a i, ((a ≠ 100 ∧ a ≠ 105 ∧ a ≠ 106) ∨ (a = 100 ∧ i ≤ 14)) → g' a i = g a i
/-- what the reference's session work leaves alone -/
def rF (g g' : Nat → Nat → Int) : Prop := ∀ a i, (a < 100 ∨ (100 < a ∧ a < 105) ∨ 115 ≤ a ∨ (a = 100 ∧ i ≤ 14)) → g' a i = g a i
theorem rF.rf : rF g g := fun _ _ _ => rfl
theorem rF.tr {g1 g2 : Nat → Nat → Int} (h1 : rF g g1) (h2 : rF g1 g2) : rF g g2 := fun a i h => (h2 a i h).trans (h1 a i h)
theorem rG.f {g' : Nat → Nat → Int} (h : rG g g') : rF g g' := fun a i q => h a i (by omega)
theorem rF.u {j : Nat} {z : Int} (hj : 15 ≤ j) : rF g (x_uf g 100 j z) := fun a i h => x_uf_ne (by omega)
theorem rC1.at {s : Nat → Int} (h : rC1 g s) : g 100 20 = s 3 ∧ g 100 21 = s 4 ∧ g 100 26 = s 5 ∧ g 100 19 = s 6 ∧ g 100 22 = s 7 ∧ g 100 36 = s 8 ∧ g 100 23 = s 9 ∧ g 100 24 = s 10 ∧ g 100 25 = s 11 :=
  ⟨h 3 (by omega) (by omega), h 4 (by omega) (by omega), h 5 (by omega) (by omega), h 6 (by omega) (by omega), h 7 (by omega) (by omega), h 8 (by omega) (by omega), h 9 (by omega) (by omega), h 10 (by omega) (by omega), h 11 (by omega) (by omega)⟩
theorem rC2.eq {g' : Nat → Nat → Int} {l : List yM} (h : rC2 g l) (e0 : g' 100 15 = g 100 15) (e : ∀ a i, a = 105 ∨ a = 106 → g' a i = g a i) : rC2 g' l :=
  ⟨e0.trans h.1, fun k h1 h2 => ⟨(e _ _ (Or.inr rfl)).trans (h.2 k h1 h2).1, fun i hi => (e _ _ (Or.inl rfl)).trans ((h.2 k h1 h2).2 i hi)⟩⟩
theorem rC3.eq {g' : Nat → Nat → Int} {x : Int} {l : List yR} (h : rC3 g x l) (e : ∀ a i, a = 107 ∨ a = 108 → g' a i = g a i) : rC3 g' x l := fun j h1 h2 => by
  rw [e _ _ (Or.inl rfl), e _ _ (Or.inr rfl), e _ _ (Or.inr rfl), e _ _ (Or.inr rfl), e _ _ (Or.inr rfl)]
  exact h j h1 h2
theorem rC4.eq {g' : Nat → Nat → Int} {l : List yR} (h : rC4 g l) (e0 : g' 100 29 = g 100 29) (e : ∀ a i, 109 ≤ a ∧ a ≤ 113 → g' a i = g a i) : rC4 g' l :=
  ⟨e0.trans h.1, h.2.1, fun i hi => by rw [e _ _ (by omega), e _ _ (by omega), e _ _ (by omega), e _ _ (by omega), e _ _ (by omega)]; exact h.2.2 i hi⟩
theorem rC5.eq {g' : Nat → Nat → Int} {l : List Int} (h : rC5 g l) (e0 : g' 100 35 = g 100 35) (e : ∀ i, g' 114 i = g 114 i) : rC5 g' l :=
  ⟨e0.trans h.1, h.2.1, fun i hi => by rw [e]; exact h.2.2 i hi⟩
/-- a scalar but the next number is set -/
theorem rC.set {j : Nat} {z : Int} (h1 : 3 ≤ j) (h2 : j ≤ 11) (h4 : j ≠ 4) (h : rC g y) : rC (x_uf g 100 (mf j) z) (yset y j z) := by
  have hb := mf_b h1 h2
  refine ⟨fun i q1 q2 => ?_, h.2.1.eq (x_uf_ne (by omega)) (fun a i q => x_uf_ne (by omega)), ?_, h.2.2.2.1.eq (x_uf_ne (by omega)) (fun a i q => x_uf_ne (by omega)), h.2.2.2.2.eq (x_uf_ne (by omega)) (fun i => x_uf_ne (by omega))⟩
  · have hi := mf_b q1 q2
    by_cases c : i = j
    · rw [c, x_uf_eq]
      exact yset_eq.symm
    · rw [x_uf_ne (by omega), yset_ne c]
      exact h.1 i q1 q2
  · have e : (yset y j z).1 4 = y.1 4 := yset_ne (by omega)
    rw [e]
    exact h.2.2.1.eq (fun a i q => x_uf_ne (by omega))
/-- a frame more -/
theorem rC.post {g' : Nat → Nat → Int} {M : yM} {k : Nat} (h : rC g y) (hk : y.2.1.length = k) (hG : rG g g') (e1 : ∀ i, i ≠ 15 → i ≠ 18 → i ≠ 24 → i ≠ 38 → g' 100 i = g 100 i) (e24 : g' 100 24 = g 100 22) (e15 : g' 100 15 = k + 1)
    (eo : ∀ j i, j < k → i < 120 → g' 106 j = g 106 j ∧ g' 105 (120 * j + i) = g 105 (120 * j + i)) (en : k < 20 → g' 106 k = (yfr M).length ∧ ∀ i, i < (yfr M).length → g' 105 (120 * k + i) = (yfr M).getD i 0) : rC g' (ypost y M) := by
  obtain ⟨h1, h2, h3, h4, h5⟩ := h
  refine ⟨fun j q1 q2 => ?_, ⟨?_, fun i hi1 hi2 => ?_⟩, h3.eq (fun a i q => hG _ _ (by omega)), h4.eq (e1 _ (by omega) (by omega) (by omega) (by omega)) (fun a i q => hG _ _ (by omega)), h5.eq (e1 _ (by omega) (by omega) (by omega) (by omega)) (fun i => hG _ _ (by omega))⟩
  · have hb := mf_b q1 q2
    show g' 100 (mf j) = if j = 10 then y.1 7 else y.1 j
    by_cases c : j = 10
    · rw [if_pos c, c, show mf 10 = 24 from rfl, e24]
      exact h1 7 (by omega) (by omega)
    · rw [if_neg c, e1 _ (by omega) (by omega) (by omega) (by omega)]
      exact h1 j q1 q2
  · show _ = ((y.2.1 ++ [M]).length : Int)
    rw [e15, List.length_append, hk]; rfl
  · have hi3 : i < (y.2.1 ++ [M]).length := hi2
    rw [List.length_append, List.length_singleton, hk] at hi3
    have eg : (ypost y M).2.1.getD i yD = if i < k then y.2.1.getD i yD else M := by
      show (y.2.1 ++ [M]).getD i yD = _
      rw [ygd_app, hk]
      by_cases c : i < k
      · rw [if_pos c, if_pos c]
      · rw [if_neg c, if_neg c, if_pos (by omega)]
    rw [eg]
    by_cases c : i < k
    · rw [if_pos c]
      have := h2.2 i hi1 (by omega)
      refine ⟨(eo i 0 c (by omega)).1.trans this.1, fun j hj => ?_⟩
      have hl := yfr_len (y.2.1.getD i yD)
      rw [(eo i j c (by omega)).2]
      exact this.2 j hj
    · rw [if_neg c, show i = k by omega]
      exact en (by omega)
theorem c97 {t nn d p q r s : Int} (hC : rC g y) (hlen : y.2.1.length ≤ 100000) (ho : rok (t, nn, d, p, q, r, s)) (h : ∀ g', rC g' (ypost y (t, nn, d, p, q, r, s)) → rG g g' → Q (.inl none) (x_vm g') n) : x_V S 97 0 [some (.ref 100), some (.int (I t)), some (.int (I nn)), some (.int (I d)), some (.int (I p)), some (.int (I (mq t q))), some (.int (I r)), some (.int (I s))] [] (x_vm g) n Q := by
  have hk := hC.2.1.1
  generalize ek : y.2.1.length = k at hk hlen
  have hF := yfr_len (t, nn, d, p, q, r, s)
  have hm : mM (x_uf g 100 38 0) false k := ⟨by rw [x_uf_eq]; rfl, by rw [x_uf_ne (by omega)]; exact hk, by omega⟩
  generalize eF : yfr (t, nn, d, p, q, r, s) = F at hF
  have hd := ho.1.2.2.1
  simp only at hd
  have a15 : mw false k F (x_uf g 100 38 0) 100 15 = k := by rw [mw_ot (by omega) (by omega) (by omega)]; exact hm.2.1
  have a18 : mw false k F (x_uf g 100 38 0) 100 18 = F.length := by
    have := mw_sz (m := false) (k := k) (l := F) (g := x_uf g 100 38 0)
    rw [if_neg (by decide)] at this
    exact this
  have a22 : mw false k F (x_uf g 100 38 0) 100 22 = g 100 22 := by rw [mw_ot (by omega) (by omega) (by omega), x_uf_ne (by omega)]
  have am : ∀ a i, a ≠ 105 → ¬ (a = 100 ∧ (i = 18 ∨ i = 38)) → mw false k F (x_uf g 100 38 0) a i = g a i := fun a i q1 q2 => by
    rw [mwf, if_neg (by omega), if_neg (by omega), x_uf_ne (by omega)]
  have ao : ∀ j i, j < k → i < 120 → mw false k F (x_uf g 100 38 0) 105 (120 * j + i) = g 105 (120 * j + i) := fun j i q1 q2 => by
    rw [mwf, if_neg (by omega), if_neg (by omega), x_uf_ne (by omega)]
  have an : k < 20 → ∀ i, i < F.length → mw false k F (x_uf g 100 38 0) 105 (120 * k + i) = F.getD i 0 := fun q i hi => by
    rw [mwf, if_neg (by omega), if_pos ⟨q, rfl, by omega, by omega⟩, show 120 * k + i - 120 * k = i by omega]
  refine s97_0 rfl ?_
  refine s97_1 ?_
  refine s97_2 (by first | assumption | rfl) (by omega) (by first | assumption | (exact hpo _) | rfl | decide) (by first | assumption | decide | omega) ?_
  refine s97_5 rfl ?_
  refine s97_6 rfl ?_
  refine s97_7 rfl ?_
  refine s97_8 rfl ?_
  refine s97_9 rfl ?_
  refine s97_11 rfl ?_
  refine s97_13 rfl ?_
  refine s97_15 rfl ?_
  refine s97_17 (by first | assumption | rfl) (by simp) ?_
  refine c96 (m := false) (k := k) hm ho ?_
  refine ⟨_, rfl, ?_⟩
  rw [eF]
  unfold rg
  rw [if_neg (show ¬ false = true by decide)]
  generalize mw false k F (x_uf g 100 38 0) = g1 at a15 a18 a22 am ao an
  refine s97_20 rfl ?_
  refine s97_21 (by first | assumption | rfl) (by first | assumption | (exact hpo _) | rfl | decide) (by first | assumption | decide | omega) ?_
  rw [a15]
  refine s97_24 ?_
  refine s97_26 ⟨by omega, by omega⟩ ⟨by omega, by omega⟩ (fun h26 => ?_) (fun h26 => ?_)
  · refine s97_42 rfl ?_
    refine s97_43 rfl ?_
    refine s97_44 (by first | assumption | rfl) (by first | assumption | (exact hpo _) | rfl | decide) (by first | assumption | decide | omega) ?_
    first
      | rw [a15]
      | rw [show x_uf g1 106 k (F.length : Int) 100 15 = k by rw [x_uf_ne (by omega)]; exact a15]
    refine s97_47 ?_
    refine s97_48 ?_
    refine s97_49 (by first | assumption | rfl) (by first | assumption | (exact hpo _) | rfl | decide) (by first | assumption | decide | omega) ?_
    refine s97_52 rfl ?_
    refine s97_53 rfl ?_
    refine s97_54 (by first | assumption | rfl) (by first | assumption | (exact hpo _) | rfl | decide) (by first | assumption | decide | omega) ?_
    first
      | rw [show x_uf g1 100 15 ((k : Int) + 1) 100 22 = g 100 22 by rw [x_uf_ne (by omega)]; exact a22]
      | rw [show x_uf (x_uf g1 106 k (F.length : Int)) 100 15 ((k : Int) + 1) 100 22 = g 100 22 by rw [x_uf_ne (by omega), x_uf_ne (by omega)]; exact a22]
    refine s97_57 (by first | assumption | rfl) (by first | assumption | (exact hpo _) | rfl | decide) (by first | assumption | decide | omega) ?_
    refine s97_60 (st := []) ?_
    first
      | (refine h _ (hC.post ek (fun a i q => ?_) (fun i q1 q2 q3 q4 => ?_) (x_uf_eq _ _ _ _) (by rw [x_uf_ne (by omega), x_uf_eq]) (fun j i q1 q2 => ⟨?_, ?_⟩) (fun q => ⟨?_, ?_⟩)) (fun a i q => ?_)
         · rw [x_uf_ne (by omega), x_uf_ne (by omega), x_uf_ne (by omega)]; exact am _ _ (by omega) (by omega)
         · rw [x_uf_ne (by omega), x_uf_ne (by omega), x_uf_ne (by omega)]; exact am _ _ (by omega) (by omega)
         · rw [x_uf_ne (by omega), x_uf_ne (by omega), x_uf_ne (by omega)]; exact am _ _ (by omega) (by omega)
         · rw [x_uf_ne (by omega), x_uf_ne (by omega), x_uf_ne (by omega)]; exact ao j i q1 q2
         · rw [x_uf_ne (by omega), x_uf_ne (by omega), x_uf_eq, eF]
         · rw [eF]; intro i hi; rw [x_uf_ne (by omega), x_uf_ne (by omega), x_uf_ne (by omega)]; exact an q i hi
         · rw [x_uf_ne (by omega), x_uf_ne (by omega), x_uf_ne (by omega)]; exact am _ _ (by omega) (by omega))
      | (refine h _ (hC.post ek (fun a i q => ?_) (fun i q1 q2 q3 q4 => ?_) (x_uf_eq _ _ _ _) (by rw [x_uf_ne (by omega), x_uf_eq]) (fun j i q1 q2 => ⟨?_, ?_⟩) (fun q => by omega)) (fun a i q => ?_)
         · rw [x_uf_ne (by omega), x_uf_ne (by omega)]; exact am _ _ (by omega) (by omega)
         · rw [x_uf_ne (by omega), x_uf_ne (by omega)]; exact am _ _ (by omega) (by omega)
         · rw [x_uf_ne (by omega), x_uf_ne (by omega)]; exact am _ _ (by omega) (by omega)
         · rw [x_uf_ne (by omega), x_uf_ne (by omega)]; exact ao j i q1 q2
         · rw [x_uf_ne (by omega), x_uf_ne (by omega)]; exact am _ _ (by omega) (by omega))
  · refine s97_29 rfl ?_
    refine s97_30 (by first | assumption | rfl) (by first | assumption | (exact hpo _) | rfl | decide) ?_
    refine s97_33 rfl ?_
    refine s97_34 (by first | assumption | rfl) (by first | assumption | (exact hpo _) | rfl | decide) (by first | assumption | decide | omega) ?_
    rw [a15]
    refine s97_37 rfl ?_
    refine s97_38 (by first | assumption | rfl) (by first | assumption | (exact hpo _) | rfl | decide) (by first | assumption | decide | omega) ?_
    rw [a18]
    refine v_iast d97_41 (by first | assumption | rfl) (by omega) (by omega) (by omega) (by first | assumption | (exact hpo _) | rfl | decide) (by first | assumption | decide | omega) ?_
    rw [Int.toNat_natCast]
    refine s97_42 rfl ?_
    refine s97_43 rfl ?_
    refine s97_44 (by first | assumption | rfl) (by first | assumption | (exact hpo _) | rfl | decide) (by first | assumption | decide | omega) ?_
    first
      | rw [a15]
      | rw [show x_uf g1 106 k (F.length : Int) 100 15 = k by rw [x_uf_ne (by omega)]; exact a15]
    refine s97_47 ?_
    refine s97_48 ?_
    refine s97_49 (by first | assumption | rfl) (by first | assumption | (exact hpo _) | rfl | decide) (by first | assumption | decide | omega) ?_
    refine s97_52 rfl ?_
    refine s97_53 rfl ?_
    refine s97_54 (by first | assumption | rfl) (by first | assumption | (exact hpo _) | rfl | decide) (by first | assumption | decide | omega) ?_
    first
      | rw [show x_uf g1 100 15 ((k : Int) + 1) 100 22 = g 100 22 by rw [x_uf_ne (by omega)]; exact a22]
      | rw [show x_uf (x_uf g1 106 k (F.length : Int)) 100 15 ((k : Int) + 1) 100 22 = g 100 22 by rw [x_uf_ne (by omega), x_uf_ne (by omega)]; exact a22]
    refine s97_57 (by first | assumption | rfl) (by first | assumption | (exact hpo _) | rfl | decide) (by first | assumption | decide | omega) ?_
    refine s97_60 (st := []) ?_
    first
      | (refine h _ (hC.post ek (fun a i q => ?_) (fun i q1 q2 q3 q4 => ?_) (x_uf_eq _ _ _ _) (by rw [x_uf_ne (by omega), x_uf_eq]) (fun j i q1 q2 => ⟨?_, ?_⟩) (fun q => ⟨?_, ?_⟩)) (fun a i q => ?_)
         · rw [x_uf_ne (by omega), x_uf_ne (by omega), x_uf_ne (by omega)]; exact am _ _ (by omega) (by omega)
         · rw [x_uf_ne (by omega), x_uf_ne (by omega), x_uf_ne (by omega)]; exact am _ _ (by omega) (by omega)
         · rw [x_uf_ne (by omega), x_uf_ne (by omega), x_uf_ne (by omega)]; exact am _ _ (by omega) (by omega)
         · rw [x_uf_ne (by omega), x_uf_ne (by omega), x_uf_ne (by omega)]; exact ao j i q1 q2
         · rw [x_uf_ne (by omega), x_uf_ne (by omega), x_uf_eq, eF]
         · rw [eF]; intro i hi; rw [x_uf_ne (by omega), x_uf_ne (by omega), x_uf_ne (by omega)]; exact an q i hi
         · rw [x_uf_ne (by omega), x_uf_ne (by omega), x_uf_ne (by omega)]; exact am _ _ (by omega) (by omega))
      | (refine h _ (hC.post ek (fun a i q => ?_) (fun i q1 q2 q3 q4 => ?_) (x_uf_eq _ _ _ _) (by rw [x_uf_ne (by omega), x_uf_eq]) (fun j i q1 q2 => ⟨?_, ?_⟩) (fun q => by omega)) (fun a i q => ?_)
         · rw [x_uf_ne (by omega), x_uf_ne (by omega)]; exact am _ _ (by omega) (by omega)
         · rw [x_uf_ne (by omega), x_uf_ne (by omega)]; exact am _ _ (by omega) (by omega)
         · rw [x_uf_ne (by omega), x_uf_ne (by omega)]; exact am _ _ (by omega) (by omega)
         · rw [x_uf_ne (by omega), x_uf_ne (by omega)]; exact ao j i q1 q2
         · rw [x_uf_ne (by omega), x_uf_ne (by omega)]; exact am _ _ (by omega) (by omega))
end MS
