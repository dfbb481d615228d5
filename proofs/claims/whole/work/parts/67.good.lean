/-! 67.good: the reference knows a right frame. -/
section MP
variable {S : Nat × (Nat → Int32)} {μ : xM} {g : Nat → Nat → Int} {n : Nat} {Q : xQ} {f : Int → Int} {sz : Int} {l : List tK} {t : Int}
theorem tdrop {i : Nat} (h : i < l.length) : l.drop i = l.getD i tD :: l.drop (i + 1) := by
  rw [List.drop_eq_getElem_cons h, List.getD_eq_getElem?_getD, List.getElem?_eq_getElem h]
  rfl
def tvv (f : Int → Int) (l : List tK) (t : Int) (k i : Nat) : Int := if t = 52 ∧ k = 1 then tlet f l i (x_tg t k) else tnum f l i (x_tg t k)
theorem town_y {d k i : Nat} {w : Nat → Int} (ht : zpeer t) (hk : k < 3) (h0 : 0 ≤ tvv f l t k i) (h1 : t ≠ 52 ∨ k = 0 ∨ tvv f l t k i = 89 ∨ tvv f l t k i = 78) : ∃ v', town f t (d + 1) k (l.drop i) w = town f t d (k + 1) (l.drop (i + 1)) (zup w k v') ∧ (t = 52 ∧ k = 1 → (tvv f l t k i = 89 ∧ v' = 1) ∨ (tvv f l t k i = 78 ∧ v' = 0)) ∧ (¬ (t = 52 ∧ k = 1) → v' = tvv f l t k i) := by
  have hg := (x_tga t (zpeer_m ht) ⟨k, by omega⟩).2.2.1
  simp only at hg
  unfold tvv at h0 h1 ⊢
  by_cases c : t = 52 ∧ k = 1
  · rw [if_pos c] at h0 h1 ⊢
    obtain ⟨p1, p2, p3⟩ := tlet_p h0
    have e123 : x_tg t k = 123 := by rw [c.1, c.2]; exact x_tg123
    rw [tdrop p1, town_c, if_pos p2]
    have hv : tval1 f (x_tg t k) (l.getD i tD) = (if tlet1 f (l.getD i tD) = 89 then 1 else if tlet1 f (l.getD i tD) = 78 then 0 else -1) := if_pos e123
    rw [← p3] at hv
    rcases (show tlet f l i (x_tg t k) = 89 ∨ tlet f l i (x_tg t k) = 78 by omega) with q | q
    · rw [if_pos q] at hv
      rw [hv, if_neg (by omega)]
      exact ⟨1, rfl, fun _ => Or.inl ⟨q, rfl⟩, fun z => absurd c z⟩
    · rw [if_neg (by omega), if_pos q] at hv
      rw [hv, if_neg (by omega)]
      exact ⟨0, rfl, fun _ => Or.inr ⟨q, rfl⟩, fun z => absurd c z⟩
  · rw [if_neg c] at h0 h1 ⊢
    obtain ⟨p1, p2, p3⟩ := tnum_p h0
    have e123 : ¬ x_tg t k = 123 := fun z => c (hg z)
    have hv : tval1 f (x_tg t k) (l.getD i tD) = tnum1 f (l.getD i tD) := if_neg e123
    rw [← p3] at hv
    rw [tdrop p1, town_c, if_pos p2, hv, if_neg (by omega)]
    exact ⟨_, rfl, fun z => absurd z c, fun _ => rfl⟩
theorem x_fc52 : (x_fc 52).toNat = 2 := by decide
theorem town_no {d k i : Nat} {w0 : Nat → Int} (ht : zpeer t) (hk : k < (x_fc t).toNat) (h48 : t = 48 → i + 1 < l.length) (h : ¬ (0 ≤ tvv f l t k i ∧ (t ≠ 52 ∨ k = 0 ∨ tvv f l t k i = 89 ∨ tvv f l t k i = 78))) (w : Nat → Int) (x : tK) : town f t (d + 1) k (l.drop i) w0 ≠ some (w, [x]) := by
  have h3 := (x_tga t (zpeer_m ht) 0).2.2.2
  have hg := (x_tga t (zpeer_m ht) ⟨k, by omega⟩).2.2.1
  simp only at hg
  have h52 : t = 52 → k < 2 := fun z => by rw [z, x_fc52] at hk; exact hk
  intro e
  by_cases c1 : i < l.length
  · rw [tdrop c1, town_c] at e
    split at e
    · rename_i c2
      split at e
      · cases e
      · rename_i c3
        refine h ?_
        unfold tvv
        by_cases c : t = 52 ∧ k = 1
        · rw [if_pos c]
          have e1 : tlet f l i (x_tg t k) = tlet1 f (l.getD i tD) := if_pos ⟨c1, c2⟩
          have e123 : x_tg t k = 123 := by rw [c.1, c.2]; exact x_tg123
          have hv : tval1 f (x_tg t k) (l.getD i tD) = (if tlet1 f (l.getD i tD) = 89 then 1 else if tlet1 f (l.getD i tD) = 78 then 0 else -1) := if_pos e123
          rw [← e1] at hv
          rw [hv] at c3
          split at c3
          · omega
          · split at c3
            · omega
            · exact absurd rfl c3
        · rw [if_neg c]
          have e1 : tnum f l i (x_tg t k) = tnum1 f (l.getD i tD) := if_pos ⟨c1, c2⟩
          have hv : tval1 f (x_tg t k) (l.getD i tD) = tnum1 f (l.getD i tD) := if_neg (fun z => c (hg z))
          rw [hv, ← e1] at c3
          have := tnum_b (f := f) (l := l) (i := i) (T := x_tg t k)
          omega
    · split at e
      · rename_i q
        have := h48 q
        have e := congrArg (fun z => z.2.length) (Option.some.inj e)
        simp only [List.length_cons, List.length_nil, List.length_drop] at e
        omega
      · cases e
  · rw [List.drop_of_length_le (by omega), town_n] at e
    split at e
    · rename_i q
      have := h48 q
      omega
    · cases e
def tR (t : Int) (c k : Nat) (w : Nat → Int) (a b e : Int) : Prop :=
  (0 < k → 0 < c → a = w 0 ∧ 0 ≤ a ∧ a ≤ 999999) ∧ (¬ (0 < k ∧ 0 < c) → a = 0) ∧ (1 < k → 1 < c → 0 ≤ b ∧ b ≤ 999999 ∧ (t = 52 → (b = 89 ∧ w 1 = 1) ∨ (b = 78 ∧ w 1 = 0)) ∧ (t ≠ 52 → b = w 1)) ∧ (¬ (1 < k ∧ 1 < c) → b = 0) ∧ (2 < k → 2 < c → e = w 2 ∧ 0 ≤ e ∧ e ≤ 999999) ∧ (¬ (2 < k ∧ 2 < c) → e = 0)
def tJ (f : Int → Int) (t : Int) (l l5 : List tK) (u : Nat → Int) (k i : Nat) (r : Int) (a b c : Int) : Prop :=
  (r = 0 ∧ ∀ w x, town f t (x_fc t).toNat 0 l5 u ≠ some (w, [x])) ∨ (r = 1 ∧ (t = 48 → k = 0 → i + 1 < l.length) ∧ ∃ w, town f t (x_fc t).toNat 0 l5 u = town f t ((x_fc t).toNat - k) k (l.drop i) w ∧ tR t (x_fc t).toNat k w a b c)
theorem tvv_b (hb : ∀ p, -1 ≤ f p ∧ f p ≤ 127) {k i : Nat} : -1 ≤ tvv f l t k i ∧ tvv f l t k i ≤ 999999 := by
  have h1 := tlet_b (l := l) (i := i) (T := x_tg t k) hb
  have h2 := tnum_b (f := f) (l := l) (i := i) (T := x_tg t k)
  unfold tvv
  split <;> omega
theorem tJ.skip {l5 : List tK} {u : Nat → Int} {k i : Nat} {r a b c : Int} (hk : ¬ k < (x_fc t).toNat) (h : tJ f t l l5 u k i r a b c) (h48 : t ≠ 48 ∨ 0 < k) : tJ f t l l5 u (k + 1) i r a b c := by
  rcases h with h | ⟨h1, h2, w, h3, h4⟩
  · exact Or.inl h
  · refine Or.inr ⟨h1, fun _ q => by omega, w, ?_, ?_⟩
    · rw [h3, show (x_fc t).toNat - k = 0 by omega, show (x_fc t).toNat - (k + 1) = 0 by omega]
      rfl
    · obtain ⟨a1, a2, a3, a4, a5, a6⟩ := h4
      exact ⟨fun q1 q2 => a1 (by omega) q2, fun q => a2 (by omega), fun q1 q2 => a3 (by omega) q2, fun q => a4 (by omega), fun q1 q2 => a5 (by omega) q2, fun q => a6 (by omega)⟩
theorem tJ.no {l5 : List tK} {u : Nat → Int} {k i : Nat} {r a b c a' b' c' : Int} (ht : zpeer t) (hk : k < (x_fc t).toNat) (h48 : t = 48 → k = 0) (h : tJ f t l l5 u k i r a b c) (hv : ¬ (r = 1 ∧ 0 ≤ tvv f l t k i ∧ (t ≠ 52 ∨ k = 0 ∨ tvv f l t k i = 89 ∨ tvv f l t k i = 78))) : tJ f t l l5 u (k + 1) (i + 1) 0 a' b' c' := by
  rcases h with h | ⟨h1, h2, w, h3, h4⟩
  · exact Or.inl ⟨rfl, h.2⟩
  · refine Or.inl ⟨rfl, fun w' x e => ?_⟩
    rw [h3, show (x_fc t).toNat - k = ((x_fc t).toNat - (k + 1)) + 1 by omega] at e
    exact town_no ht hk (fun q => h2 q (h48 q)) (fun z => hv ⟨h1, z⟩) w' x e
theorem tJ.yes {l5 : List tK} {u : Nat → Int} {k i : Nat} {r a b c a' b' c' : Int} (ht : zpeer t) (hb : ∀ p, -1 ≤ f p ∧ f p ≤ 127) (hk : k < (x_fc t).toNat) (h : tJ f t l l5 u k i r a b c) (hv : r = 1 ∧ 0 ≤ tvv f l t k i ∧ (t ≠ 52 ∨ k = 0 ∨ tvv f l t k i = 89 ∨ tvv f l t k i = 78))
    (ha : a' = if k = 0 then tvv f l t k i else a) (hb' : b' = if k = 1 then tvv f l t k i else b) (hc : c' = if k = 2 then tvv f l t k i else c) : tJ f t l l5 u (k + 1) (i + 1) 1 a' b' c' := by
  have h3' := (x_tga t (zpeer_m ht) 0).2.2.2
  have vb := tvv_b (l := l) (t := t) hb (k := k) (i := i)
  rcases h with h | ⟨h1, h2, w, h3, h4⟩
  · exact absurd hv.1 (by omega)
  · obtain ⟨v', e1, e2, e3⟩ := town_y (d := (x_fc t).toNat - (k + 1)) (w := w) ht (by omega) hv.2.1 hv.2.2
    refine Or.inr ⟨rfl, fun _ q => by omega, zup w k v', ?_, ?_⟩
    · rw [h3, show (x_fc t).toNat - k = ((x_fc t).toNat - (k + 1)) + 1 by omega, e1]
    · obtain ⟨a1, a2, a3, a4, a5, a6⟩ := h4
      have z : ∀ j, zup w k v' j = if j = k then v' else w j := fun _ => rfl
      have hk3 : k = 0 ∨ k = 1 ∨ k = 2 := by omega
      rcases hk3 with q | q | q <;> rw [q] at ha hb' hc hk e2 e3 vb hv a1 a2 a3 a4 a5 a6 z ⊢ <;> simp only [Nat.reduceEqDiff, reduceIte, Nat.zero_ne_one, Nat.one_ne_zero, Nat.reduceAdd] at ha hb' hc
      · refine ⟨fun _ _ => ⟨by rw [ha, z, if_pos rfl]; exact (e3 (by omega)).symm, by omega, by omega⟩, fun z => by omega, fun z => by omega, fun _ => by rw [hb']; exact a4 (by omega), fun z => by omega, fun _ => by rw [hc]; exact a6 (by omega)⟩
      · refine ⟨fun q1 q2 => ?_, fun z => by omega, fun _ _ => ⟨by omega, by omega, fun q => ?_, fun q => ?_⟩, fun z => by omega, fun z => by omega, fun _ => by rw [hc]; exact a6 (by omega)⟩
        · rw [ha, z, if_neg (by omega)]; exact a1 (by omega) q2
        · rw [hb', z, if_pos rfl]; exact e2 ⟨q, rfl⟩
        · rw [hb', z, if_pos rfl]; exact (e3 (fun z => q z.1)).symm
      · refine ⟨fun q1 q2 => ?_, fun z => by omega, fun q1 q2 => ?_, fun z => by omega, fun _ _ => ⟨by rw [hc, z, if_pos rfl]; exact (e3 (by omega)).symm, by omega, by omega⟩, fun z => by omega⟩
        · rw [ha, z, if_neg (by omega)]; exact a1 (by omega) q2
        · rw [hb', z, if_neg (by omega)]; exact a3 (by omega) q2
end MP
