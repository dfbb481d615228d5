/-! 37.take: Inbox.scan, TradeLink.take. -/
section CJ
variable {S : Nat × (Nat → Int32)} {μ : xM} {g : Nat → Nat → Int} {n v : Nat} {Q : xQ} {f : Int → Int} {p : Int} {y : yS} {B : Int} {bs : List Int}
def zrest (f : Int → Int) (sz : Int) (L s : Int) (u : Nat → Int) : Option (Int × Int × Int × (Nat → Int)) :=
  match zhead f s with
  | none => none
  | some (t, m, d, q) =>
    match zown f t (x_fc t).toNat 0 q u with
    | none => none
    | some (w, r) => if r - s = L ∧ zsum f sz r = true then some (t, m, d, w) else none
def zscan (f : Int → Int) (sz : Int) (u : Nat → Int) : Option (Int × Int × Int × (Nat → Int)) :=
  match zop f 8 0 with
  | none => none
  | some q => if zchr f q = 70 then
      match zop f 9 (q + 2) with
      | none => none
      | some r => if (znum f r).1 = -1 then none else zrest f sz (znum f r).1 (znum f r).2 u
    else none
theorem zown_b {t : Int} : ∀ (d i : Nat) (q : Int) (u w : Nat → Int) (r : Int), 0 ≤ q → zown f t d i q u = some (w, r) → 0 ≤ r ∧ r ≤ q + 11 * d
  | 0, i, q, u, w, r, h0, h => by
    rw [zown] at h
    cases h
    omega
  | d + 1, i, q, u, w, r, h0, h => by
    rw [zown] at h
    split at h
    · split at h
      · cases h
        omega
      · cases h
    · rename_i q' e
      split at h
      · cases h
      · have b := zop_b e
        have z := zval_b (f := f) (t := x_tg t i) q' (by omega)
        have := zown_b d (i + 1) _ _ _ _ (by omega) h
        omega
theorem zhead_b {t m d q : Int} (hp : 0 ≤ p) (h : zhead f p = some (t, m, d, q)) : x_peer t ∧ (0 ≤ m ∧ m ≤ 999999) ∧ (d = 0 ∨ d = 1) ∧ p ≤ q ∧ q ≤ p + 30 := by
  unfold zhead at h
  split at h
  · cases h
  · rename_i q1 e1
    have b1 := zop_b e1
    split at h
    · rename_i hpe
      split at h
      · cases h
      · rename_i r e2
        have b2 := zop_b e2
        have z := znum_b (f := f) r (by omega)
        split at h
        · split at h
          · cases h
          · cases h
            exact ⟨hpe, by omega, Or.inl rfl, by omega, by omega⟩
        · rename_i w e3
          have b3 := zop_b e3
          split at h
          · cases h
          · cases h
            exact ⟨hpe, by omega, Or.inr rfl, by omega, by omega⟩
    · cases h
/-- the scan leaves this: nothing but the reader's place and the message -/
theorem c28 {sz : Int} (hS : zS g f) (hg : ∀ j, j < 120 → 0 ≤ g 5 j ∧ g 5 j ≤ 127) (hsz : g 4 1 = sz) (hv : ∀ i, i < 4 → -1 ≤ g 7 i ∧ g 7 i ≤ 999999) (hN : ∀ g', zR g g' → (∀ i, i < 4 → -1 ≤ g' 7 i ∧ g' 7 i ≤ 999999) → zscan f sz (g 7) = none → Q (.inl (some (.int (I 0)))) (x_vm g') n)
    (hY : ∀ t m d u g', zR g g' → (∀ i, i < 4 → -1 ≤ g' 7 i ∧ g' 7 i ≤ 999999) → zscan f sz (g 7) = some (t, m, d, u) → g' 6 0 = t → g' 6 1 = m → g' 6 2 = d → g' 7 = u → Q (.inl (some (.int (I 1)))) (x_vm g') n) : x_V S 28 0 [some (.ref 3), some (.ref 6), none, none] [] (x_vm g) n Q := by
  unfold zscan at hN hY
  refine s28_0 rfl ?_
  refine s28_1 ?_
  refine s28_2 rfl rfl (by decide) ?_
  have hA0 : zA g (x_uf g 3 1 0) 0 := zA.u
  have hS0 := hA0.s hS
  generalize x_uf g 3 1 0 = g0 at hA0 hS0
  have bad : ∀ (g' : Nat → Nat → Int) (q : Int) (w2 w3 : Option Value), zA g g' q → (zscan f sz (g 7) = none) → x_V S 28 32 [some (.ref 3), some (.ref 6), w2, w3] [] (x_vm g') n Q := by
    intro g' q w2 w3 hA e
    unfold zscan at e
    refine s28_32 ?_
    refine s28_33 (st := []) (by omega) ?_
    exact hN g' hA.r (fun i hi => by rw [hA.2 _ _ (by omega)]; exact hv i hi) e
  unfold zscan at bad
  refine s28_5 rfl ?_
  refine s28_6 ?_
  refine s28_8 rfl (by simp) ?_
  refine c32 hS0 hA0.1 ⟨by omega, by omega⟩ ⟨by omega, by omega⟩ (fun q1 g1 e1 hA1 => ?_) (fun e1 => ?_)
  rotate_left
  · refine ⟨_, rfl, ?_⟩
    rw [e1] at bad
    exact s28_11 ⟨by omega, by omega⟩ (fun h11 => bad g0 _ _ _ hA0 rfl) (fun h11 => absurd rfl h11)
  refine ⟨_, rfl, ?_⟩
  refine s28_11 ⟨by omega, by omega⟩ (fun h11 => absurd h11 (by decide)) (fun h11 => ?_)
  have hA1' := hA0.tr hA1
  have b1 := zop_b e1
  have hc := zchr_b hS q1
  rw [e1] at bad hN hY
  simp only at bad hN hY
  refine s28_14 rfl ?_
  refine s28_15 rfl (by simp) ?_
  refine c34 (hA1'.s hS) hA1.1 ⟨by omega, by omega⟩ (fun g2 hA2 => ?_)
  refine ⟨_, rfl, ?_⟩
  have hA2' := hA1'.tr hA2
  refine s28_18 ?_
  refine s28_20 ⟨by omega, by omega⟩ ⟨by omega, by omega⟩ (fun h20 => ?_) (fun h20 => ?_)
  · rw [if_neg h20] at bad
    exact bad g2 _ _ _ hA2' rfl
  have h20 : zchr f q1 = 70 := by omega
  rw [if_pos h20] at bad hN hY
  refine s28_23 rfl ?_
  refine s28_24 ?_
  refine s28_26 rfl (by simp) ?_
  refine c32 (hA2'.s hS) hA2.1 ⟨by omega, by omega⟩ ⟨by omega, by omega⟩ (fun r g3 e3 hA3 => ?_) (fun e3 => ?_)
  rotate_left
  · refine ⟨_, rfl, ?_⟩
    rw [e3] at bad
    exact s28_29 ⟨by omega, by omega⟩ (fun h29 => absurd rfl h29) (fun h29 => bad g2 _ _ _ hA2' rfl)
  refine ⟨_, rfl, ?_⟩
  refine s28_29 ⟨by omega, by omega⟩ (fun h29 => ?_) (fun h29 => absurd h29 (by decide))
  have hA3' := hA2'.tr hA3
  have b3 := zop_b e3
  rw [e3] at hN hY
  simp only at hN hY
  clear bad
  have hz := znum_b (f := f) r (by omega)
  refine s28_34 rfl ?_
  refine s28_35 rfl (by simp) ?_
  refine c33 (hA3'.s hS) hA3.1 ⟨by omega, by omega⟩ (fun g4 hA4 => ?_)
  refine ⟨_, rfl, ?_⟩
  have hA4' := hA3'.tr hA4
  have at4 := hA4.1
  generalize (znum f r).1 = L at hz hN hY
  generalize (znum f r).2 = s at hz hN hY hA4 hA4' at4
  refine s28_38 ?_
  refine s28_39 rfl ?_
  refine s28_40 rfl rfl (by decide) ?_
  rw [at4]
  refine s28_43 ?_
  refine s28_44 rfl ?_
  refine s28_45 ?_
  have bad2 : ∀ (g' : Nat → Nat → Int), zR g g' → (∀ i, i < 4 → -1 ≤ g' 7 i ∧ g' 7 i ≤ 999999) → (if L = -1 then none else zrest f sz L s (g 7)) = none → x_V S 28 65 [some (.ref 3), some (.ref 6), some (.int (I L)), some (.int (I s))] [] (x_vm g') n Q := by
    intro g' hR hv' e
    refine s28_65 ?_
    refine s28_66 (st := []) (by omega) ?_
    exact hN g' hR hv' e
  have v4 : ∀ i, i < 4 → -1 ≤ g4 7 i ∧ g4 7 i ≤ 999999 := fun i hi => by rw [hA4'.2 _ _ (by omega)]; exact hv i hi
  refine s28_46 ⟨by omega, by omega⟩ ⟨by omega, by omega⟩ (fun h46 => bad2 g4 hA4'.r v4 (if_pos h46)) (fun h46 => ?_)
  rw [if_neg (show ¬ L = -1 by omega)] at bad2 hN hY
  unfold zrest at bad2 hN hY
  refine s28_49 rfl ?_
  refine s28_50 rfl ?_
  refine s28_51 rfl rfl (by simp) ?_
  refine c29 (hA4'.s hS) at4 ⟨by omega, by omega⟩ (fun e5 g5 hR5 v5 => ?_) (fun t m d q5 g5 e5 a5 t5 m5 d5 hR5 v5 => ?_)
  · refine ⟨_, rfl, ?_⟩
    rw [e5] at bad2
    exact s28_54 ⟨by omega, by omega⟩ (fun h54 => bad2 g5 (hA4'.r.tr hR5) (fun i hi => by rw [v5]; exact v4 i hi) rfl) (fun h54 => absurd rfl h54)
  refine ⟨_, rfl, ?_⟩
  refine s28_54 ⟨by omega, by omega⟩ (fun h54 => absurd h54 (by decide)) (fun h54 => ?_)
  rw [e5] at bad2 hN hY
  simp only at bad2 hN hY
  obtain ⟨pe, mb, db, qb1, qb2⟩ := zhead_b (by omega) e5
  have hR5' := hA4'.r.tr hR5
  have v5' : ∀ i, i < 4 → -1 ≤ g5 7 i ∧ g5 7 i ≤ 999999 := fun i hi => by rw [v5]; exact v4 i hi
  have u5 : g5 7 = g 7 := funext fun i => by rw [v5]; exact hA4'.2 _ _ (by omega)
  have ht : ib t := by unfold x_peer at pe; exact ⟨by omega, by omega⟩
  refine s28_57 rfl ?_
  refine s28_58 rfl ?_
  refine s28_59 rfl rfl (by simp) ?_
  refine c30 ht t5 (hR5'.s hS) v5' a5 ⟨by omega, by omega⟩ (fun g6 hR6 v6 h66 e6 => ?_) (fun u q6 g6 hR6 v6 h66 e6 u6 a6 => ?_)
  · refine ⟨_, rfl, ?_⟩
    rw [u5] at e6
    rw [e6] at bad2
    exact s28_62 ⟨by omega, by omega⟩ (fun h62 => absurd rfl h62) (fun h62 => bad2 g6 (hR5'.tr hR6) v6 rfl)
  refine ⟨_, rfl, ?_⟩
  refine s28_62 ⟨by omega, by omega⟩ (fun h62 => ?_) (fun h62 => absurd h62 (by decide))
  rw [u5] at e6
  have hfc := x_fc_b t
  have bw := zown_b _ _ _ _ _ _ (by omega) e6
  rw [e6] at hN hY
  simp only at hN hY
  clear bad2
  have hR6' := hR5'.tr hR6
  have g64 : g6 4 1 = sz := by rw [hR6' _ _ (by omega) (by omega) (by omega)]; exact hsz
  have g65 : ∀ j, j < 120 → 0 ≤ g6 5 j ∧ g6 5 j ≤ 127 := fun j hj => by rw [hR6' _ _ (by omega) (by omega) (by omega)]; exact hg j hj
  have q6b : q6 ≤ 800 := by omega
  have hzs : (if zsum f sz q6 = true then (1 : Int) else 0) = 0 ∧ ¬ zsum f sz q6 = true ∨ (if zsum f sz q6 = true then (1 : Int) else 0) = 1 ∧ zsum f sz q6 = true := by
    split
    · exact Or.inr ⟨rfl, by assumption⟩
    · exact Or.inl ⟨rfl, by assumption⟩
  refine s28_67 rfl ?_
  refine s28_68 (by first | assumption | rfl) (by first | assumption | (exact hpo _) | rfl | decide) (by first | assumption | decide | omega) ?_
  rw [a6]
  refine s28_71 rfl ?_
  refine s28_72 ?_
  refine s28_73 rfl ?_
  refine s28_74 ⟨by omega, by omega⟩ ⟨by omega, by omega⟩ (fun h74 => ?_) (fun h74 => ?_)
  · refine s28_88 ?_
    refine s28_89 (st := []) (by omega) ?_
    first
      | (rw [if_neg (fun z => by omega)] at hN; exact hN g6 hR6' v6 rfl)
      | (rcases hzs with ⟨z1, z2⟩ | ⟨z1, z2⟩
         · rw [if_neg (fun z => z2 z.2)] at hN
           exact hN g7 (hR6'.tr hA7.r) (fun i hi => by rw [hA7.2 _ _ (by omega)]; exact v6 i hi) rfl
         · exfalso; omega)
      | (rcases hzs with ⟨z1, z2⟩ | ⟨z1, z2⟩
         · exfalso; omega
         · rw [if_pos ⟨by omega, z2⟩] at hY
           exact hY t m d u g7 (hR6'.tr hA7.r) (fun i hi => by rw [hA7.2 _ _ (by omega)]; exact v6 i hi) rfl (by rw [hA7.2 _ _ (by omega), h66]; exact t5) (by rw [hA7.2 _ _ (by omega), h66]; exact m5) (by rw [hA7.2 _ _ (by omega), h66]; exact d5) (by rw [← u6]; funext i; exact hA7.2 _ _ (by omega)))
  · refine s28_77 rfl ?_
    refine s28_78 (by first | assumption | rfl) (by simp) ?_
    refine c31 (hR6'.s hS) g65 g64 a6 ⟨by omega, by omega⟩ (fun q7 g7 hA7 => ?_)
    refine ⟨_, rfl, ?_⟩
    refine s28_81 ⟨by omega, by omega⟩ (fun h81 => ?_) (fun h81 => ?_)
    · refine s28_88 ?_
      refine s28_89 (st := []) (by omega) ?_
      first
        | (rw [if_neg (fun z => by omega)] at hN; exact hN g6 hR6' v6 rfl)
        | (rcases hzs with ⟨z1, z2⟩ | ⟨z1, z2⟩
           · rw [if_neg (fun z => z2 z.2)] at hN
             exact hN g7 (hR6'.tr hA7.r) (fun i hi => by rw [hA7.2 _ _ (by omega)]; exact v6 i hi) rfl
           · exfalso; omega)
        | (rcases hzs with ⟨z1, z2⟩ | ⟨z1, z2⟩
           · exfalso; omega
           · rw [if_pos ⟨by omega, z2⟩] at hY
             exact hY t m d u g7 (hR6'.tr hA7.r) (fun i hi => by rw [hA7.2 _ _ (by omega)]; exact v6 i hi) rfl (by rw [hA7.2 _ _ (by omega), h66]; exact t5) (by rw [hA7.2 _ _ (by omega), h66]; exact m5) (by rw [hA7.2 _ _ (by omega), h66]; exact d5) (by rw [← u6]; funext i; exact hA7.2 _ _ (by omega)))
    · refine s28_84 ?_
      refine s28_85 ?_
      refine s28_89 (st := []) (by omega) ?_
      first
        | (rw [if_neg (fun z => by omega)] at hN; exact hN g6 hR6' v6 rfl)
        | (rcases hzs with ⟨z1, z2⟩ | ⟨z1, z2⟩
           · rw [if_neg (fun z => z2 z.2)] at hN
             exact hN g7 (hR6'.tr hA7.r) (fun i hi => by rw [hA7.2 _ _ (by omega)]; exact v6 i hi) rfl
           · exfalso; omega)
        | (rcases hzs with ⟨z1, z2⟩ | ⟨z1, z2⟩
           · exfalso; omega
           · rw [if_pos ⟨by omega, z2⟩] at hY
             exact hY t m d u g7 (hR6'.tr hA7.r) (fun i hi => by rw [hA7.2 _ _ (by omega)]; exact v6 i hi) rfl (by rw [hA7.2 _ _ (by omega), h66]; exact t5) (by rw [hA7.2 _ _ (by omega), h66]; exact m5) (by rw [hA7.2 _ _ (by omega), h66]; exact d5) (by rw [← u6]; funext i; exact hA7.2 _ _ (by omega)))
/-- the values of a scanned message -/
theorem zown_v {t : Int} (ht : t ≠ 48) : ∀ (d i : Nat) (q : Int) (u w : Nat → Int) (r : Int), 0 ≤ q → zown f t d i q u = some (w, r) → (∀ j, j < i ∨ i + d ≤ j → w j = u j) ∧ ∀ j, i ≤ j → j < i + d → 0 ≤ w j ∧ w j ≤ 999999
  | 0, i, q, u, w, r, h0, h => by
    rw [zown] at h
    cases h
    exact ⟨fun _ _ => rfl, fun j h1 h2 => by omega⟩
  | d + 1, i, q, u, w, r, h0, h => by
    rw [zown] at h
    split at h
    · rw [if_neg ht] at h
      cases h
    · rename_i q' e
      split at h
      · cases h
      · rename_i hne
        have b := zop_b e
        have z := zval_b (f := f) (t := x_tg t i) q' (by omega)
        obtain ⟨a1, a2⟩ := zown_v ht d (i + 1) _ _ _ _ (by omega) h
        refine ⟨fun j hj => ?_, fun j h1 h2 => ?_⟩
        · rw [a1 j (by omega)]
          unfold zup
          rw [if_neg (by omega)]
        · by_cases c : j = i
          · rw [a1 j (by omega)]
            unfold zup
            rw [if_pos c]
            omega
          · exact a2 j (by omega) (by omega)
theorem zscan_u {sz : Int} {u w : Nat → Int} {t m d : Int} (h : zscan f sz u = some (t, m, d, w)) : x_peer t ∧ (0 ≤ m ∧ m ≤ 999999) ∧ (d = 0 ∨ d = 1) ∧ ∃ q r, 0 ≤ q ∧ zown f t (x_fc t).toNat 0 q u = some (w, r) := by
  unfold zscan at h
  split at h
  · cases h
  · rename_i q1 e1
    have b1 := zop_b e1
    split at h
    · split at h
      · cases h
      · rename_i r e2
        have b2 := zop_b e2
        have z := znum_b (f := f) r (by omega)
        split at h
        · cases h
        · unfold zrest at h
          split at h
          · cases h
          · rename_i t' m' d' q' e3
            obtain ⟨p1, p2, p3, p4, p5⟩ := zhead_b (by omega) e3
            split at h
            · cases h
            · rename_i w' r' e4
              split at h
              · cases h
                exact ⟨p1, p2, p3, q', r', by omega, e4⟩
              · cases h
    · cases h
theorem x_fc_t : x_fc 49 = 1 ∧ x_fc 50 = 2 ∧ x_fc 52 = 2 ∧ x_fc 65 = 1 ∧ x_fc 68 = 3 ∧ x_fc 70 = 2 ∧ x_fc 71 = 3 ∧ x_fc 48 = 1 ∧ x_fc 53 = 0 := by decide
theorem zscan_h {sz : Int} {u w : Nat → Int} {t m d : Int} (h : zscan f sz u = some (t, m, d, w)) (hw : ∀ i, i < 4 → -1 ≤ w i ∧ w i ≤ 999999) : yHB t m d (w 0) (w 1) (w 2) := by
  obtain ⟨h1, h2, h3, q, r, hq, e⟩ := zscan_u h
  refine ⟨h1, h2, h3, hw 0 (by omega), hw 1 (by omega), hw 2 (by omega), fun a1 a2 => ?_, fun a1 => ?_, fun a1 => ?_⟩
  · have z := (zown_v a1 _ _ _ _ _ _ hq e).2 0 (by omega)
    have c : 1 ≤ (x_fc t).toNat := by
      have := x_fc_t
      rcases h1 with q | q | q | q | q | q | q | q | q <;> rw [q] <;> first | (exfalso; omega) | omega
    exact (z (by omega)).1
  · have z := (zown_v (by omega) _ _ _ _ _ _ hq e).2 1 (by omega)
    have c : 2 ≤ (x_fc t).toNat := by
      have := x_fc_t
      rcases a1 with q | q | q | q | q <;> rw [q] <;> omega
    exact (z (by omega)).1
  · have z := (zown_v (by omega) _ _ _ _ _ _ hq e).2 2 (by omega)
    have c : 3 ≤ (x_fc t).toNat := by
      have := x_fc_t
      rcases a1 with q | q <;> rw [q] <;> omega
    exact (z (by omega)).1
/-- the bytes of the frame at hand, -1 outside -/
def zfb (bs : List Int) (p : Int) : Int := if 0 ≤ p ∧ p < bs.length then bs.getD p.toNat 0 else -1
theorem zC.s (h : zC g y bs) : zS g (zfb bs) := by
  have e : ∀ p, x_atv g 4 5 p = zfb bs p := fun p => by
    unfold x_atv zfb
    rw [h.2.1.1]
    by_cases q : 0 ≤ p ∧ p < (bs.length : Int)
    · rw [if_pos q, if_pos q]
      exact h.2.1.2.2 _ (by omega)
    · rw [if_neg q, if_neg q]
  have hl := h.2.1.2.1
  refine ⟨e, ⟨by rw [h.2.1.1]; omega, by rw [h.2.1.1]; omega⟩, fun p => ?_⟩
  rw [← e]
  unfold x_atv
  split
  · rename_i q
    have := h.2.2.1 p.toNat (by rw [h.2.1.1] at q; omega)
    omega
  · omega
theorem zC.scn {g' : Nat → Nat → Int} (h : zC g y bs) (e : zR g g') (hv : ∀ i, i < 4 → -1 ≤ g' 7 i ∧ g' 7 i ≤ 999999) : zC g' y bs :=
  ⟨h.1.low (fun a i _ _ _ => e _ _ (by omega) (by omega) (by omega)), ⟨by rw [e _ _ (by omega) (by omega) (by omega)]; exact h.2.1.1, h.2.1.2.1, fun i hi => by rw [e _ _ (by omega) (by omega) (by omega)]; exact h.2.1.2.2 i hi⟩, fun j hj => by rw [e _ _ (by omega) (by omega) (by omega)]; exact h.2.2.1 j hj, fun j hj => by rw [e _ _ (by omega) (by omega) (by omega)]; exact h.2.2.2.1 j hj, hv⟩
theorem zC.emp (h : zC g y bs) : zC (x_uf g 4 1 0) y [] :=
  ⟨h.1.low (fun a i _ _ _ => x_uf_ne (by omega)), ⟨x_uf_eq _ _ _ _, by decide, fun i hi => absurd hi (Nat.not_lt_zero _)⟩, fun j hj => by rw [x_uf_ne (by omega)]; exact h.2.2.1 j hj, fun j hj => by rw [x_uf_ne (by omega)]; exact h.2.2.2.1 j hj, fun j hj => by rw [x_uf_ne (by omega)]; exact h.2.2.2.2 j hj⟩
theorem c73 (hZ : zC g y bs) (hB : yB B (yclr y)) (hB1 : 1 ≤ B) (hB2 : B + 1300 ≤ 100000000) (hN : yN y) (hO : yO y) (hu : y.2.2.2.2.length < 512) (hl : y.2.2.1.length < 512) (hn : 116 ≤ n ∧ n < 640) (hT : bs = [] → Q (.inr 1) (x_vm g) (n + 1))
    (hG : bs ≠ [] → zscan (zfb bs) bs.length (g 7) = none → ∀ g', zC g' (yclr y) [] → zF g g' → Q (.inl (some (.int (I 0)))) (x_vm g') n)
    (hR : bs ≠ [] → ∀ t m d w, zscan (zfb bs) bs.length (g 7) = some (t, m, d, w) → yHB t m d (w 0) (w 1) (w 2) → ∀ g', zC g' (yrecv (yclr y) t m d (w 0) (w 1) (w 2)).2 [] → zF g g' → Q (.inl (some (.int (I (yrecv (yclr y) t m d (w 0) (w 1) (w 2)).1)))) (x_vm g') n) : x_V S 73 0 [some (.ref 2), none] [] (x_vm g) n Q := by
  have hs := x_shx hn.1
  have hn2 : n < x_NM := hn.2
  have e41 := hZ.2.1.1
  have hlen := hZ.2.1.2.1
  have hb0 : bs = [] ↔ bs.length = 0 := ⟨fun e => by rw [e]; rfl, List.eq_nil_of_length_eq_zero⟩
  refine s73_0 rfl ?_
  refine s73_1 (by first | assumption | rfl) (by first | assumption | (exact hpo _) | rfl | decide) ?_
  refine s73_4 (by first | assumption | rfl) (by first | assumption | (exact hpo _) | rfl | decide) ?_
  refine s73_7 (by first | assumption | rfl) (by first | assumption | (exact hpo _) | rfl | decide) (by first | assumption | decide | omega) ?_
  rw [e41]
  refine s73_10 ⟨by omega, by omega⟩ (fun h10 => ?_) (fun h10 => ?_)
  rotate_left
  · refine s73_13 (by first | assumption | rfl) (by first | assumption | omega) (by simp) ?_
    exact hT (hb0.2 (by omega))
  have hne : bs ≠ [] := fun e => by rw [hb0] at e; omega
  have hG := hG hne
  have hR := hR hne
  refine s73_21 rfl ?_
  refine s73_22 rfl rfl ?_
  refine s73_25 rfl rfl ?_
  refine s73_28 rfl (by simp) ?_
  refine c38 ?_
  refine ⟨_, rfl, ?_⟩
  have hZ1 := hZ.clr
  have hF1 : zF g (x_uf g 9 2 0) := zF.u (by omega)
  have e7 : (x_uf g 9 2 0) 7 = g 7 := funext fun i => x_uf_ne (by omega)
  generalize x_uf g 9 2 0 = g1 at hZ1 hF1 e7
  refine s73_31 rfl ?_
  refine s73_32 rfl rfl ?_
  refine s73_35 rfl ?_
  refine s73_36 rfl rfl ?_
  refine s73_39 rfl rfl (by simp) ?_
  refine c28 hZ1.s hZ1.2.2.1 hZ1.2.1.1 hZ1.2.2.2.2 (fun g2 hR2 v2 e2 => ?_) (fun t m d u g2 hR2 v2 e2 t2 m2 d2 u2 => ?_)
  · refine ⟨_, rfl, ?_⟩
    rw [e7] at e2
    have hZ2 := (hZ1.scn hR2 v2).emp
    have hF2 : zF g1 (x_uf g2 4 1 0) := fun a i q => by rw [x_uf_ne (by omega)]; exact hR2 _ _ (by omega) (by omega) (by omega)
    refine s73_42 ?_
    refine s73_43 rfl ?_
    refine s73_44 (by first | assumption | rfl) (by first | assumption | (exact hpo _) | rfl | decide) ?_
    refine s73_47 (by first | assumption | rfl) (by first | assumption | (exact hpo _) | rfl | decide) ?_
    refine s73_50 (by first | assumption | rfl) (by simp) ?_
    refine c6 x_row4 ?_
    refine ⟨_, rfl, ?_⟩
    refine s73_53 rfl ?_
    refine s73_54 ⟨by omega, by omega⟩ (fun h54 => ?_) (fun h54 => ?_)
    · refine s73_71 ?_
      refine s73_72 (st := []) ?_
      exact hG e2 _ hZ2 (hF1.tr hF2)
    · exact absurd rfl h54
  · refine ⟨_, rfl, ?_⟩
    rw [e7] at e2
    have hZ2 := (hZ1.scn hR2 v2).emp
    have hF2 : zF g1 (x_uf g2 4 1 0) := fun a i q => by rw [x_uf_ne (by omega)]; exact hR2 _ _ (by omega) (by omega) (by omega)
    have hh : yHB t m d (u 0) (u 1) (u 2) := zscan_h e2 (fun i hi => by rw [← u2]; exact v2 i hi)
    have hH : yH (x_uf g2 4 1 0) t m d (u 0) (u 1) (u 2) := ⟨by rw [x_uf_ne (by omega)]; exact t2, by rw [x_uf_ne (by omega)]; exact m2, by rw [x_uf_ne (by omega)]; exact d2, by rw [x_uf_ne (by omega), u2], by rw [x_uf_ne (by omega), u2], by rw [x_uf_ne (by omega), u2]⟩
    refine s73_42 ?_
    refine s73_43 rfl ?_
    refine s73_44 (by first | assumption | rfl) (by first | assumption | (exact hpo _) | rfl | decide) ?_
    refine s73_47 (by first | assumption | rfl) (by first | assumption | (exact hpo _) | rfl | decide) ?_
    refine s73_50 (by first | assumption | rfl) (by simp) ?_
    refine c6 x_row4 ?_
    refine ⟨_, rfl, ?_⟩
    refine s73_53 rfl ?_
    refine s73_54 ⟨by omega, by omega⟩ (fun h54 => ?_) (fun h54 => ?_)
    · exact absurd h54 (by decide)
    · refine s73_57 rfl ?_
      refine s73_58 (by first | assumption | rfl) (by first | assumption | (exact hpo _) | rfl | decide) ?_
      refine s73_61 rfl ?_
      refine s73_62 (by first | assumption | rfl) (by first | assumption | (exact hpo _) | rfl | decide) ?_
      refine s73_65 rfl (by first | assumption | rfl) (by simp) ?_
      refine c55 hZ2.1 hB hB1 hB2 hN hO hu hl hH hh (fun g3 hC3 hF3 => ?_)
      refine ⟨_, rfl, ?_⟩
      refine s73_68 ?_
      refine s73_72 (st := []) ?_
      exact hR t m d u e2 hh _ (hZ2.ses hC3 hF3) ((hF1.tr hF2).tr hF3.z)
end CJ
