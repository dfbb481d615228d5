/-! 61.tok: what the fields of a frame say to the scanner of the class. -/
section MP
variable {S : Nat × (Nat → Int32)} {μ : xM} {g : Nat → Nat → Int} {n : Nat} {Q : xQ} {f : Int → Int} {sz : Int}
theorem tdl4 {p : Int} : tdl f 4 0 p = if 48 ≤ f p ∧ f p ≤ 57 then (if 48 ≤ f (p + 1) ∧ f (p + 1) ≤ 57 then (if 48 ≤ f (p + 2) ∧ f (p + 2) ≤ 57 then (if 48 ≤ f (p + 3) ∧ f (p + 3) ≤ 57 then (1000 * (f p - 48) + 100 * (f (p + 1) - 48) + 10 * (f (p + 2) - 48) + (f (p + 3) - 48), p + 4) else (100 * (f p - 48) + 10 * (f (p + 1) - 48) + (f (p + 2) - 48), p + 3)) else (10 * (f p - 48) + (f (p + 1) - 48), p + 2)) else (f p - 48, p + 1)) else (0, p) := by
  simp only [tdl, show p + 1 + 1 = p + 2 by omega, show p + 2 + 1 = p + 3 by omega, show p + 3 + 1 = p + 4 by omega]
  split
  · split
    · split
      · split
        · exact Prod.ext (by simp only; omega) rfl
        · exact Prod.ext (by simp only; omega) rfl
      · exact Prod.ext (by simp only; omega) rfl
    · exact Prod.ext (by simp only; omega) rfl
  · rfl
theorem zop1 {T p : Int} (h1 : 1 ≤ T) (h2 : T < 10) : zop f T p = if f p = 48 + T ∧ f (p + 1) = 61 then some (p + 2) else none := by
  unfold zop
  simp only [zol]
  rw [if_neg (show ¬ 100 ≤ T by omega), if_neg (show ¬ 10 ≤ T by omega), if_pos (show 1 ≤ T by omega), show T / 1 % 10 = T by omega]
  by_cases c : f p = 48 + T
  · rw [if_pos c]
    by_cases c2 : f (p + 1) = 61
    · rw [if_pos c2, if_pos ⟨c, c2⟩, show p + 1 + 1 = p + 2 by omega]
    · rw [if_neg c2, if_neg (fun z => c2 z.2)]
  · rw [if_neg c, if_neg (fun z => c z.1)]
theorem zop2 {T p : Int} (h1 : 10 ≤ T) (h2 : T < 100) : zop f T p = if f p = 48 + T / 10 ∧ f (p + 1) = 48 + T % 10 ∧ f (p + 2) = 61 then some (p + 3) else none := by
  unfold zop
  simp only [zol]
  rw [if_neg (show ¬ 100 ≤ T by omega), if_pos (show 10 ≤ T by omega), if_pos (show 1 ≤ T by omega), show T / 1 % 10 = T % 10 by omega, show T / 10 % 10 = T / 10 by omega]
  by_cases c : f p = 48 + T / 10
  · rw [if_pos c]
    by_cases c1 : f (p + 1) = 48 + T % 10
    · rw [if_pos c1, show p + 1 + 1 = p + 2 by omega]
      by_cases c2 : f (p + 2) = 61
      · rw [if_pos c2, if_pos ⟨c, c1, c2⟩, show p + 2 + 1 = p + 3 by omega]
      · rw [if_neg c2, if_neg (fun z => c2 z.2.2)]
    · rw [if_neg c1, if_neg (fun z => c1 z.2.1)]
  · rw [if_neg c, if_neg (fun z => c z.1)]
theorem zop3 {T p : Int} (h1 : 100 ≤ T) (h2 : T < 1000) : zop f T p = if f p = 48 + T / 100 ∧ f (p + 1) = 48 + T / 10 % 10 ∧ f (p + 2) = 48 + T % 10 ∧ f (p + 3) = 61 then some (p + 4) else none := by
  unfold zop
  simp only [zol]
  rw [if_pos (show 100 ≤ T by omega), if_pos (show 10 ≤ T by omega), if_pos (show 1 ≤ T by omega), show T / 1 % 10 = T % 10 by omega, show T / 100 % 10 = T / 100 by omega]
  by_cases c : f p = 48 + T / 100
  · rw [if_pos c]
    by_cases c1 : f (p + 1) = 48 + T / 10 % 10
    · rw [if_pos c1, show p + 1 + 1 = p + 2 by omega]
      by_cases c2 : f (p + 2) = 48 + T % 10
      · rw [if_pos c2, show p + 2 + 1 = p + 3 by omega]
        by_cases c3 : f (p + 3) = 61
        · rw [if_pos c3, if_pos ⟨c, c1, c2, c3⟩, show p + 3 + 1 = p + 4 by omega]
        · rw [if_neg c3, if_neg (fun z => c3 z.2.2.2)]
      · rw [if_neg c2, if_neg (fun z => c2 z.2.2.1)]
    · rw [if_neg c1, if_neg (fun z => c1 z.2.1)]
  · rw [if_neg c, if_neg (fun z => c z.1)]
theorem zop_tg {T p q : Int} (h1 : 1 ≤ T) (h2 : T ≤ 999) (h : zop f T p = some q) : tTG f p T q := by
  by_cases c : T < 10
  · rw [zop1 h1 c] at h
    split at h
    · rename_i e
      cases h
      refine ⟨p + 1, ?_, by omega, by omega, e.2, by omega⟩
      rw [tdl4, if_pos (by omega), if_neg (by omega)]
      exact Prod.ext (by simp only; omega) rfl
    · cases h
  · by_cases c2 : T < 100
    · rw [zop2 (by omega) c2] at h
      split at h
      · rename_i e
        obtain ⟨e1, e2, e3⟩ := e
        cases h
        refine ⟨p + 2, ?_, by omega, by omega, e3, by omega⟩
        rw [tdl4, if_pos (by omega), if_pos (by omega), if_neg (by omega)]
        exact Prod.ext (by simp only; omega) rfl
      · cases h
    · rw [zop3 (by omega) (by omega)] at h
      split at h
      · rename_i e
        obtain ⟨e1, e2, e3, e4⟩ := e
        cases h
        refine ⟨p + 3, ?_, by omega, by omega, e4, by omega⟩
        rw [tdl4, if_pos (by omega), if_pos (by omega), if_pos (by omega), if_neg (by omega)]
        exact Prod.ext (by simp only; omega) rfl
      · cases h
theorem tTG.op {T p a : Int} (h1 : 1 ≤ T) (h2 : T ≤ 999) (h : tTG f p T a) : zop f T p = some a := by
  obtain ⟨q, e, e1, e2, e3, e4⟩ := h
  rw [tdl4] at e
  rw [e4]
  split at e
  · split at e
    · split at e
      · split at e
        · exfalso
          obtain ⟨u1, u2⟩ := Prod.mk.inj e
          omega
        · obtain ⟨u1, u2⟩ := Prod.mk.inj e
          rw [← u2] at e3 ⊢
          rw [zop3 (by omega) (by omega), if_pos ⟨by omega, by omega, by omega, e3⟩, show p + 3 + 1 = p + 4 by omega]
      · obtain ⟨u1, u2⟩ := Prod.mk.inj e
        rw [← u2] at e3 ⊢
        rw [zop2 (by omega) (by omega), if_pos ⟨by omega, by omega, e3⟩, show p + 2 + 1 = p + 3 by omega]
    · obtain ⟨u1, u2⟩ := Prod.mk.inj e
      rw [← u2] at e3 ⊢
      rw [zop1 (by omega) (by omega), if_pos ⟨by omega, e3⟩, show p + 1 + 1 = p + 2 by omega]
  · exfalso
    obtain ⟨u1, u2⟩ := Prod.mk.inj e
    omega
theorem tTG.b {T p a : Int} (h : tTG f p T a) : 0 ≤ T ∧ T ≤ 9999 ∧ p + 2 ≤ a ∧ a ≤ p + 5 := by
  obtain ⟨q, e, e1, e2, e3, e4⟩ := h
  rw [tdl4] at e
  split at e
  · split at e
    · split at e
      · split at e
        · obtain ⟨u1, u2⟩ := Prod.mk.inj e
          omega
        · obtain ⟨u1, u2⟩ := Prod.mk.inj e
          omega
      · obtain ⟨u1, u2⟩ := Prod.mk.inj e
        omega
    · obtain ⟨u1, u2⟩ := Prod.mk.inj e
      omega
  · obtain ⟨u1, u2⟩ := Prod.mk.inj e
    omega
theorem tTG.ev {T t p a : Int} (h1 : 1 ≤ T) (h2 : T ≤ 999) (h : tTG f p t a) : zop f T p = if t = T then some a else none := by
  by_cases c : t = T
  · rw [if_pos c]
    rw [c] at h
    exact h.op h1 h2
  · rw [if_neg c]
    cases e : zop f T p with
    | none => rfl
    | some q => exact absurd (h.u (zop_tg h1 h2 e)).1 c
/-- a field's letter and number -/
def tnv (f : Int → Int) : Nat → Int → Int → Int
  | 0, v, _ => v
  | d + 1, v, k => if 48 ≤ f k ∧ f k ≤ 57 then tnv f d (10 * v + f k - 48) (k + 1) else -1
def tnum1 (f : Int → Int) (x : tK) : Int := if x.2.2 - x.2.1 ≤ 6 then tnv f (x.2.2 - x.2.1).toNat 0 x.2.1 else -1
def tlet1 (f : Int → Int) (x : tK) : Int := if x.2.2 - x.2.1 = 1 then f x.2.1 else -1
theorem tVL.chr {a b t : Int} (h : tVL f a b) : zchr f a = tlet1 f (t, a, b) := by
  obtain ⟨h1, h2, h3⟩ := h
  unfold zchr tlet1
  simp only
  by_cases c : b - a = 1
  · rw [if_pos c, if_pos (by rw [show a + 1 = b by omega]; exact h2)]
  · rw [if_neg c, if_neg (by have := h3 (a + 1) (by omega) (by omega); omega)]
theorem tnv_b : ∀ (d : Nat) (v k : Int), 0 ≤ v → v < 10 ^ (6 - d) → d ≤ 6 → -1 ≤ tnv f d v k ∧ tnv f d v k ≤ 999999
  | 0, v, k, h, h5, h6 => by
    have : (10 : Int) ^ (6 - 0) = 1000000 := by decide
    show -1 ≤ v ∧ v ≤ 999999
    omega
  | d + 1, v, k, h, h5, h6 => by
    have e : (10 : Int) ^ (6 - d) = 10 * 10 ^ (6 - (d + 1)) := by
      rw [show 6 - d = (6 - (d + 1)) + 1 by omega, Int.pow_succ]
      omega
    rw [tnv]
    split
    · exact tnv_b d _ _ (by omega) (by omega) (by omega)
    · omega
theorem tnum1_b (x : tK) : -1 ≤ tnum1 f x ∧ tnum1 f x ≤ 999999 := by
  unfold tnum1
  split
  · by_cases c : 0 ≤ x.2.2 - x.2.1
    · refine tnv_b _ _ _ (by omega) ?_ (by omega)
      have : ∀ j : Nat, (0 : Int) < 10 ^ j := fun j => Int.pow_pos (by omega)
      exact this _
    · rw [show (x.2.2 - x.2.1).toNat = 0 by omega]
      show (-1 : Int) ≤ 0 ∧ (0 : Int) ≤ 999999
      omega
  · omega
theorem tVL.nl {b : Int} (hb : f b = 1) : ∀ (d : Nat) (v k p : Int), p ≤ b → (∀ j, p ≤ j → j < b → 33 ≤ f j ∧ f j ≤ 126) → (f (znl f d v k p).2.2 = 1 ∧ (znl f d v k p).2.2 = b ∧ (znl f d v k p).1 = tnv f (b - p).toNat v p ∧ b - p ≤ d) ∨ (f (znl f d v k p).2.2 ≠ 1 ∧ (b - p ≤ d → tnv f (b - p).toNat v p = -1))
  | 0, v, k, p, h1, h2 => by
    rw [znl]
    by_cases c : p = b
    · left
      rw [c, show (b - b).toNat = 0 by omega]
      exact ⟨hb, rfl, rfl, by omega⟩
    · right
      refine ⟨?_, fun z => by omega⟩
      have := h2 p (by omega) (by omega)
      simp only
      omega
  | d + 1, v, k, p, h1, h2 => by
    rw [znl]
    by_cases c : p = b
    · left
      rw [if_neg (by rw [c]; omega), c, show (b - b).toNat = 0 by omega]
      exact ⟨hb, rfl, rfl, by omega⟩
    · rw [show (b - p).toNat = (b - (p + 1)).toNat + 1 by omega, tnv]
      by_cases c2 : 48 ≤ f p ∧ f p ≤ 57
      · rw [if_pos c2, if_pos c2]
        have := tVL.nl hb d (v * 10 + f p - 48) (k + 1) (p + 1) (by omega) (fun j q1 q2 => h2 j (by omega) q2)
        rw [show v * 10 + f p - 48 = 10 * v + f p - 48 by omega] at this ⊢
        rcases this with ⟨a1, a2, a3, a4⟩ | ⟨a1, a2⟩
        · exact Or.inl ⟨a1, a2, a3, by omega⟩
        · exact Or.inr ⟨a1, fun z => a2 (by omega)⟩
      · rw [if_neg c2, if_neg c2]
        right
        have := h2 p (by omega) (by omega)
        simp only
        exact ⟨by omega, fun _ => trivial⟩
theorem tVL.num {a b t : Int} (h : tVL f a b) : (znum f a).1 = tnum1 f (t, a, b) ∧ ((znum f a).1 ≠ -1 → (znum f a).2 = b + 1) := by
  obtain ⟨h1, h2, h3⟩ := h
  have z := znl_b (f := f) 6 0 0 a (by omega) (by omega) (by omega) (by omega) (by decide)
  unfold znum tnum1
  simp only
  rcases tVL.nl h2 6 0 0 a (by omega) h3 with ⟨a1, a2, a3, a4⟩ | ⟨a1, a2⟩
  · rw [if_pos (by omega), if_pos a1, if_pos (by omega)]
    exact ⟨a3, fun _ => by simp only; omega⟩
  · have e : (if b - a ≤ 6 then tnv f (b - a).toNat 0 a else -1) = -1 := by
      split
      · exact a2 (by omega)
      · rfl
    rw [e]
    split
    · exact ⟨rfl, fun q => absurd rfl q⟩
    · exact ⟨rfl, fun q => absurd rfl q⟩
theorem zchr_vl {q c : Int} (h : zchr f q = c) (h1 : 33 ≤ c) (h2 : c ≤ 126) : tVL f q (q + 1) := by
  unfold zchr at h
  split at h
  · refine ⟨by omega, by assumption, fun j a1 a2 => ?_⟩
    rw [show j = q by omega]
    omega
  · omega
theorem znl_vl : ∀ (d : Nat) (v k p : Int), p ≤ (znl f d v k p).2.2 ∧ ∀ j, p ≤ j → j < (znl f d v k p).2.2 → 33 ≤ f j ∧ f j ≤ 126
  | 0, v, k, p => ⟨Int.le_refl _, fun j h1 h2 => by
    have : j < p := h2
    omega⟩
  | d + 1, v, k, p => by
    rw [znl]
    split
    · have ⟨i1, i2⟩ := znl_vl d (v * 10 + f p - 48) (k + 1) (p + 1)
      refine ⟨by omega, fun j h1 h2 => ?_⟩
      by_cases c : j = p
      · rw [c]; omega
      · exact i2 j (by omega) h2
    · refine ⟨Int.le_refl _, fun j h1 h2 => ?_⟩
      have : j < p := h2
      omega
theorem znum_vl {q : Int} (h : (znum f q).1 ≠ -1) : tVL f q ((znum f q).2 - 1) := by
  have z := znl_b (f := f) 6 0 0 q (by omega) (by omega) (by omega) (by omega) (by decide)
  have ⟨i1, i2⟩ := znl_vl (f := f) 6 0 0 q
  unfold znum at h ⊢
  split at h
  · rename_i c
    rw [if_pos c]
    simp only at h ⊢
    split at h
    · rename_i c2
      rw [show (znl f 6 0 0 q).2.2 + 1 - 1 = (znl f 6 0 0 q).2.2 by omega]
      exact ⟨by omega, c2, i2⟩
    · exact absurd rfl h
  · exact absurd rfl h
end MP
