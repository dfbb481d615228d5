/-! 71.settle: a late settling says the same. -/
section MI
variable {y : yS} {N L T M R U : Int}
theorem yset_ext {z z' : yS} (h : ∀ j, z.1 j = z'.1 j) (h2 : z.2 = z'.2) : z = z' := Prod.ext (funext h) h2
theorem yset_id {j : Nat} {z : Int} (h : y.1 j = z) : yset y j z = y := yset_ext (fun i => by
  show (if i = j then z else y.1 i) = y.1 i
  by_cases q : i = j
  · rw [if_pos q, q, h]
  · rw [if_neg q]) rfl
theorem yset_cm {i j : Nat} {a b : Int} (h : i ≠ j) : yset (yset y i a) j b = yset (yset y j b) i a := yset_ext (fun k => by
  show (if k = j then b else if k = i then a else y.1 k) = (if k = i then a else if k = j then b else y.1 k)
  by_cases q : k = j
  · rw [if_pos q, if_neg (by omega), if_pos q]
  · rw [if_neg q, if_neg q]) rfl
theorem yset_tw {j : Nat} {a b : Int} : yset (yset y j a) j b = yset y j b := yset_ext (fun k => by
  show (if k = j then b else if k = j then a else y.1 k) = (if k = j then b else y.1 k)
  by_cases q : k = j
  · rw [if_pos q, if_pos q]
  · rw [if_neg q, if_neg q, if_neg q]) rfl
theorem yout_5 {z : Int} {m : yM} : yout (yset y 5 z) m = yset (yout y m) 5 z := rfl
theorem ypost_5 {z : Int} {m : yM} : ypost (yset y 5 z) m = yset (ypost y m) 5 z := by
  unfold ypost
  rw [show (yset y 5 z).1 7 = y.1 7 from rfl, yset_cm (by omega), yout_5]
theorem yset_y {z z' : Int} {m : yM} {j : Nat} : yset (yout y m) j z = yout (yset y j z) m := rfl
theorem ysend_5 {z t p q : Int} : ysend (yset y 5 z) t p q = yset (ysend y t p q) 5 z := by
  unfold ysend
  rw [show (yset y 5 z).1 4 = y.1 4 from rfl, ypost_5, yset_cm (by omega)]
theorem ygap_5 {z u b : Int} : ygap (yset y 5 z) u b = yset (ygap y u b) 5 z := by
  unfold ygap
  split
  · exact ypost_5
  · rfl
theorem yans_5 {last z : Int} : ∀ (ls : List yR) (y : yS) (u : Int), yans last ls (yset y 5 z) u = yset (yans last ls y u) 5 z
  | [], y, u => ygap_5
  | r :: ls, y, u => by
    rw [yans, yans]
    split
    · rw [ygap_5, ypost_5]
      exact yans_5 ls _ _
    · exact yans_5 ls y u
theorem yresend_5 {z f t : Int} : yresend (yset y 5 z) f t = yset (yresend y f t) 5 z := by
  unfold yresend
  rw [show (yset y 5 z).1 4 = y.1 4 from rfl, show (yset y 5 z).2.2.1 = y.2.2.1 from rfl]
  exact yans_5 _ _ _
theorem yrep_5 {z i s f l : Int} : yrep (yset y 5 z) i s f l = yset (yrep y i s f l) 5 z := by
  unfold yrep
  rw [show (yset y 5 z).1 4 = y.1 4 from rfl, show (yset y 5 z).1 6 = y.1 6 from rfl, show ykeep (yset y 5 z) (y.1 4, i, s, f, l) = yset (ykeep y (y.1 4, i, s, f, l)) 5 z from rfl]
  split
  · rw [yset_cm (by omega)]
  · rw [ypost_5, yset_cm (by omega)]
theorem ycarry_5 {z t a b c : Int} : ycarry (yset y 5 z) t a b c = (ycarry y t a b c).map (fun x => (x.1, yset x.2 5 z)) := by
  unfold ycarry
  rw [show (yset y 5 z).2 = y.2 from rfl]
  split
  · rfl
  · split
    · split <;> rfl
    · split <;> rfl
theorem yorder_5 {z t a b c : Int} : yorder (yset y 5 z) t a b c = yset (yorder y t a b c) 5 z := by
  unfold yorder
  rw [ycarry_5]
  cases e : ycarry y t a b c with
  | none => exact yrep_5
  | some x =>
    obtain ⟨k, y'⟩ := x
    show yrep (yset y' 5 z) a _ _ _ = _
    exact yrep_5
/-- cells that stay -/
theorem ygap_c {u b : Int} {j : Nat} (h : j ≠ 10) : (ygap y u b).1 j = y.1 j := by
  unfold ygap
  split
  · exact yset_ne h
  · rfl
theorem yans_c {last : Int} {j : Nat} (h : j ≠ 10) : ∀ (ls : List yR) (y : yS) (u : Int), (yans last ls y u).1 j = y.1 j
  | [], y, u => ygap_c h
  | r :: ls, y, u => by
    rw [yans]
    split
    · rw [yans_c h ls]
      exact (yset_ne h).trans (ygap_c h)
    · exact yans_c h ls y u
theorem yresend_c {f t : Int} {j : Nat} (h : j ≠ 10) : (yresend y f t).1 j = y.1 j := yans_c h _ _ _
theorem ysend_c {t p q : Int} {j : Nat} (h : j ≠ 10) (h4 : j ≠ 4) : (ysend y t p q).1 j = y.1 j := (yset_ne h4).trans (yset_ne h)
theorem yrep_c {i s f l : Int} {j : Nat} (h : j ≠ 10) (h4 : j ≠ 4) : (yrep y i s f l).1 j = y.1 j := by
  unfold yrep
  rw [yset_ne h4]
  split
  · rfl
  · exact yset_ne h
theorem yorder_c {t a b c : Int} {j : Nat} (h : j ≠ 10) (h4 : j ≠ 4) : (yorder y t a b c).1 j = y.1 j := by
  unfold yorder
  cases e : ycarry y t a b c with
  | none => exact yrep_c h h4
  | some x =>
    obtain ⟨k, y'⟩ := x
    obtain ⟨l, el⟩ := ycarry_f e
    show (yrep y' a _ _ _).1 j = _
    rw [yrep_c h h4, el]
    rfl
def ysv (y : yS) : Int := if y.1 5 < y.1 3 ∨ y.1 6 = 0 then 0 else y.1 5
theorem settle_e : ysettle y = yset y 5 (ysv y) := rfl
theorem settle_id (h1 : y.1 5 = 0 ∨ y.1 3 ≤ y.1 5) (h2 : y.1 6 = 0 → y.1 5 = 0) : ysettle y = y := by
  rw [settle_e]
  refine yset_id ?_
  unfold ysv
  split <;> omega
theorem settle_c {F : yS → yS} (h3 : (F y).1 3 = y.1 3) (h5 : (F y).1 5 = y.1 5) (h6 : (F y).1 6 = y.1 6) (hF : ∀ z, F (yset y 5 z) = yset (F y) 5 z) : ysettle (F y) = F (ysettle y) := by
  rw [settle_e, settle_e, hF]
  unfold ysv
  rw [h3, h5, h6]
theorem settle_r {a : Int} (h : ¬ a ≤ y.1 3) (h2 : y.1 6 = 0 → y.1 5 = 0) (h3 : 0 ≤ y.1 3) : ysettle (yset y 3 a) = yraise y a := by
  unfold yraise
  rw [if_neg h, settle_e]
  unfold ysv
  rw [show (yset y 3 a).1 5 = y.1 5 from rfl, show (yset y 3 a).1 3 = a from rfl, show (yset y 3 a).1 6 = y.1 6 from rfl]
  by_cases c : y.1 5 < a
  · rw [if_pos c, if_pos (Or.inl c)]
  · rw [if_neg c, if_neg (by omega)]
    exact yset_id rfl
theorem yin_m {a : Int} (h6 : y.1 6 = 0) (h5 : y.1 5 = 0) : ysend (yset (yset y 6 1) 5 0) 65 a 0 = yin y a := by
  unfold yin
  rw [if_pos h6, yset_id (y := yset y 6 1) (j := 5) (z := 0) h5]
theorem yleave_id (h6 : y.1 6 = 0) (h5 : y.1 5 = 0) : yleave y = y := by
  unfold yleave
  rw [yset_id h6, yset_id h5]
theorem ylogout_5 {z : Int} : ylogout (yset y 5 z) = ylogout y := by
  unfold ylogout yleave
  rw [ysend_5, yset_cm (by omega), yset_tw, yset_cm (by omega)]
theorem settle_lo : ysettle (ylogout y) = ylogout y := settle_id (Or.inl rfl) (fun _ => rfl)
/-- the early message -/
def ytk3 (y : yS) : yS := if y.1 6 ≠ 0 ∧ y.1 5 = 0 then yask y else y
def ytk4 (y : yS) (m : Int) : yS := yset y 5 (if y.1 6 ≠ 0 ∧ y.1 5 < m then m else y.1 5)
theorem settle_early {m : Int} (h1 : y.1 5 = 0 ∨ y.1 3 ≤ y.1 5) (h2 : y.1 6 = 0 → y.1 5 = 0) (h3 : 0 ≤ y.1 3 ∧ y.1 3 < m) : ysettle (ytk4 (ytk3 y) m) = yearly3 y m := by
  unfold ytk3 yearly3
  by_cases c6 : y.1 6 = 0
  · rw [if_pos c6, if_neg (fun z => z.1 c6)]
    unfold ytk4
    rw [if_neg (fun z => z.1 c6), yset_id rfl]
    exact settle_id h1 h2
  · rw [if_neg c6]
    have key : ∀ y' : yS, y'.1 6 = y.1 6 → y'.1 5 = y.1 5 → y'.1 3 = y.1 3 → ysettle (ytk4 y' m) = yearly2 y' m := by
      intro y' e6 e5 e3
      unfold ytk4 yearly2
      rw [e6, e5]
      have e : (if y.1 6 ≠ 0 ∧ y.1 5 < m then m else y.1 5) = (if y.1 5 < m then m else y.1 5) := by
        by_cases c : y.1 5 < m
        · rw [if_pos c, if_pos ⟨c6, c⟩]
        · rw [if_neg c, if_neg (fun z => c z.2)]
      rw [e]
      refine settle_id (Or.inr ?_) (fun z => absurd (show y'.1 6 = 0 from z) (by rw [e6]; exact c6))
      show y'.1 3 ≤ (if y.1 5 < m then m else y.1 5)
      rw [e3]
      split <;> omega
    by_cases c5 : y.1 5 = 0
    · rw [if_pos ⟨c6, c5⟩, if_pos c5]
      exact key (yask y) rfl rfl rfl
    · rw [if_neg (fun z => c5 z.2), if_neg c5]
      exact key y rfl rfl rfl
/-- the message in turn -/
theorem settle_t {v : Int} (h6 : y.1 6 ≠ 0) (hv : v = y.1 3 + 1) : ysettle (yset y 3 v) = yraise y v := by
  unfold yraise
  rw [if_neg (by omega), settle_e]
  unfold ysv
  rw [show (yset y 3 v).1 5 = y.1 5 from rfl, show (yset y 3 v).1 3 = v from rfl, show (yset y 3 v).1 6 = y.1 6 from rfl]
  by_cases c : y.1 5 < v
  · rw [if_pos c, if_pos (Or.inl c)]
  · rw [if_neg c, if_neg (by omega)]
    exact yset_id rfl
theorem settle_52 {v a : Int} (h6 : y.1 6 ≠ 0) (hv : v = y.1 3 + 1) (h3 : 0 ≤ y.1 3) (h5 : 0 ≤ y.1 5) : ysettle (if v < a then yset (yset y 3 v) 3 a else yset y 3 v) = yraise (yraise y v) a := by
  by_cases c : v < a
  · rw [if_pos c, yset_tw]
    have e : (yraise y v).1 3 = v := by
      unfold yraise
      rw [if_neg (by omega)]
      split <;> rfl
    rw [show yraise (yraise y v) a = if a ≤ (yraise y v).1 3 then yraise y v else if (yraise y v).1 5 < a then yset (yset (yraise y v) 3 a) 5 0 else yset (yraise y v) 3 a from rfl, e, if_neg (by omega), settle_e]
    unfold ysv
    rw [show (yset y 3 a).1 5 = y.1 5 from rfl, show (yset y 3 a).1 3 = a from rfl, show (yset y 3 a).1 6 = y.1 6 from rfl]
    unfold yraise
    rw [if_neg (show ¬ v ≤ y.1 3 by omega)]
    by_cases c1 : y.1 5 < v
    · rw [if_pos c1, show (yset (yset y 3 v) 5 0).1 5 = 0 from rfl, if_pos (show (0 : Int) < a by omega), if_pos (Or.inl (show y.1 5 < a by omega)), yset_cm (i := 5) (j := 3) (by omega), yset_tw, yset_tw]
    · rw [if_neg c1, show (yset y 3 v).1 5 = y.1 5 from rfl]
      by_cases c2 : y.1 5 < a
      · rw [if_pos c2, if_pos (Or.inl c2), yset_tw]
      · rw [if_neg c2, if_neg (by omega), yset_tw, yset_id (y := yset y 3 a) (j := 5) (z := y.1 5) rfl]
  · rw [if_neg c, settle_t h6 hv]
    rw [show yraise (yraise y v) a = if a ≤ (yraise y v).1 3 then yraise y v else if (yraise y v).1 5 < a then yset (yset (yraise y v) 3 a) 5 0 else yset (yraise y v) 3 a from rfl]
    have e : (yraise y v).1 3 = v := by
      unfold yraise
      rw [if_neg (by omega)]
      split <;> rfl
    rw [e, if_pos (by omega)]
end MI
