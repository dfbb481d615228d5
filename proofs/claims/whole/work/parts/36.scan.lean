/-! 36.scan: Inbox.scanOwnFields, Inbox.scan, TradeLink.take. -/
section CJ
variable {S : Nat × (Nat → Int32)} {μ : xM} {g : Nat → Nat → Int} {n v : Nat} {Q : xQ} {f : Int → Int} {p : Int}
def zup (u : Nat → Int) (i : Nat) (x : Int) : Nat → Int := fun j => if j = i then x else u j
/-- the value at hand: a sign or a number, and where it ends -/
def zval (f : Int → Int) (t q : Int) : Int × Int := if t = 123 then (zyn f q, q + 2) else znum f q
def zown (f : Int → Int) (t : Int) : Nat → Nat → Int → (Nat → Int) → Option ((Nat → Int) × Int)
  | 0, _, p, u => some (u, p)
  | d + 1, i, p, u =>
    match zop f (x_tg t i) p with
    | none => if t = 48 then some (zup u i (-1), p) else none
    | some q => if (zval f (x_tg t i) q).1 = -1 then none else zown f t d (i + 1) (zval f (x_tg t i) q).2 (zup u i (zval f (x_tg t i) q).1)
theorem zyn_b (q : Int) : -1 ≤ zyn f q ∧ zyn f q ≤ 1 := by
  unfold zyn
  split
  · omega
  · split <;> omega
theorem zval_b {t : Int} (q : Int) (hq : 0 ≤ q) : (-1 ≤ (zval f t q).1 ∧ (zval f t q).1 ≤ 999999) ∧ q ≤ (zval f t q).2 ∧ (zval f t q).2 ≤ q + 7 := by
  have h1 := zyn_b (f := f) q
  have h2 := znum_b (f := f) q hq
  unfold zval
  split
  · simp only; omega
  · omega
theorem zup_u {i : Nat} {x : Int} : (x_uf g 7 i x) 7 = zup (g 7) i x := by
  funext j
  unfold zup
  by_cases q : j = i
  · rw [if_pos q, q, x_uf_eq]
  · rw [if_neg q, x_uf_ne (by omega)]
theorem zR.u7 {i : Nat} {x : Int} : zR g (x_uf g 7 i x) := fun a j _ _ h => x_uf_ne (fun z => h z.1)
theorem l30 {t : Int} {c : Nat} (hc : c ≤ 4) (ht : ib t) (hN : ∀ g', zR g g' → (∀ i, i < 4 → -1 ≤ g' 7 i ∧ g' 7 i ≤ 999999) → (∀ i, g' 6 i = g 6 i) → zown f t c 0 p (g 7) = none → Q (.inl (some (.int (I 0)))) (x_vm g') n)
    (hY : ∀ u q g', zR g g' → (∀ i, i < 4 → -1 ≤ g' 7 i ∧ g' 7 i ≤ 999999) → (∀ i, g' 6 i = g 6 i) → zown f t c 0 p (g 7) = some (u, q) → g' 7 = u → g' 3 1 = q → Q (.inl (some (.int (I 1)))) (x_vm g') n) :
    ∀ (d i : Nat) (g1 : Nat → Nat → Int) (q : Int) (w : Option Value), i + d = c → zR g g1 → (∀ i, g1 6 i = g 6 i) → g 6 0 = t → zS g1 f → (∀ i, i < 4 → -1 ≤ g1 7 i ∧ g1 7 i ≤ 999999) → g1 3 1 = q → 0 ≤ q → q + 12 * d ≤ 900 → zown f t c 0 p (g 7) = zown f t d i q (g1 7) → x_V S 30 10 [some (.ref 3), some (.ref 6), some (.int (I c)), some (.int (I i)), w] [] (x_vm g1) n Q := by
  intro d
  induction d with
  | zero =>
    intro i g1 q w hi hR h6 e6 hS hv hq q1 q2 e
    rw [zown] at e
    refine s30_10 rfl ?_
    refine s30_11 rfl ?_
    refine s30_12 ⟨by omega, by omega⟩ ⟨by omega, by omega⟩ (fun h12 => ?_) (fun h12 => ?_)
    · refine s30_107 ?_
      refine s30_108 (st := []) (by omega) ?_
      exact hY _ _ g1 hR hv h6 e rfl hq
    · exfalso; omega
  | succ d ih =>
    intro i g1 q w hi hR h6 e6 hS hv hq q1 q2 e
    rw [show zown f t (d + 1) i q (g1 7) = (match zop f (x_tg t i) q with
      | none => if t = 48 then some (zup (g1 7) i (-1), q) else none
      | some q => if (zval f (x_tg t i) q).1 = -1 then none else zown f t d (i + 1) (zval f (x_tg t i) q).2 (zup (g1 7) i (zval f (x_tg t i) q).1)) from rfl] at e
    have tb := x_tg_b t i
    have e60 : g1 6 0 = t := (h6 0).trans e6
    have t1 := ht.1
    have t2 := ht.2
    refine s30_10 rfl ?_
    refine s30_11 rfl ?_
    refine s30_12 ⟨by omega, by omega⟩ ⟨by omega, by omega⟩ (fun h12 => ?_) (fun h12 => ?_)
    · exfalso; omega
    · refine s30_15 rfl ?_
      refine s30_16 rfl ?_
      refine s30_17 (by first | assumption | rfl) (by first | assumption | (exact hpo _) | rfl | decide) ?_
      refine v_alen d30_20 (by first | assumption | rfl) (by decide) ?_
      refine s30_21 ⟨by omega, by omega⟩ ⟨by omega, by omega⟩ (fun h21 => ?_) (fun h21 => ?_)
      · exfalso; omega
      · refine s30_24 rfl ?_
        refine s30_25 (by first | assumption | rfl) (by first | assumption | (exact hpo _) | rfl | decide) (by first | assumption | decide | omega) ?_
        rw [e60]
        refine s30_28 rfl ?_
        refine s30_29 (by simp) ?_
        refine c3 ht ⟨by omega, by omega⟩ ?_
        refine ⟨_, rfl, ?_⟩
        refine s30_32 ?_
        refine s30_34 rfl ?_
        refine s30_35 rfl ?_
        refine s30_37 rfl (by simp) ?_
        refine c32 hS hq ⟨by omega, by omega⟩ ⟨by omega, by omega⟩ (fun r g2 e2 hA2 => ?_) (fun e2 => ?_)
        rotate_left
        · refine ⟨_, rfl, ?_⟩
          rw [e2] at e
          simp only at e
          refine s30_40 ⟨by omega, by omega⟩ (fun h40 => ?_) (fun h40 => ?_)
          · exact absurd rfl h40
          · refine s30_43 rfl ?_
            refine s30_44 (by first | assumption | rfl) (by first | assumption | (exact hpo _) | rfl | decide) ?_
            refine s30_47 rfl ?_
            refine s30_48 ?_
            refine v_iast d30_49 rfl (by omega) (by omega) (by omega) rfl (by decide) ?_
            rw [Int.toNat_natCast]
            refine s30_50 rfl ?_
            refine s30_51 (by first | assumption | rfl) (by first | assumption | (exact hpo _) | rfl | decide) (by first | assumption | decide | omega) ?_
            rw [x_uf_ne (by omega), e60]
            refine s30_54 ?_
            refine s30_56 ⟨by omega, by omega⟩ ⟨by omega, by omega⟩ (fun h56 => ?_) (fun h56 => ?_)
            · refine s30_63 ?_
              refine s30_64 (st := []) (by omega) ?_
              first
                | (rw [if_pos (show t = 48 by omega)] at e
                   exact hY _ _ _ (hR.tr zR.u7) (fun j hj => by rw [zup_u]; unfold zup; split; omega; exact hv j hj) (fun j => by rw [x_uf_ne (by omega)]; exact h6 j) e zup_u (by rw [x_uf_ne (by omega)]; exact hq))
                | (rw [if_neg (show ¬ t = 48 by omega)] at e
                   exact hN _ (hR.tr zR.u7) (fun j hj => by rw [zup_u]; unfold zup; split; omega; exact hv j hj) (fun j => by rw [x_uf_ne (by omega)]; exact h6 j) e)
            · refine s30_59 ?_
              refine s30_60 ?_
              refine s30_64 (st := []) (by omega) ?_
              first
                | (rw [if_pos (show t = 48 by omega)] at e
                   exact hY _ _ _ (hR.tr zR.u7) (fun j hj => by rw [zup_u]; unfold zup; split; omega; exact hv j hj) (fun j => by rw [x_uf_ne (by omega)]; exact h6 j) e zup_u (by rw [x_uf_ne (by omega)]; exact hq))
                | (rw [if_neg (show ¬ t = 48 by omega)] at e
                   exact hN _ (hR.tr zR.u7) (fun j hj => by rw [zup_u]; unfold zup; split; omega; exact hv j hj) (fun j => by rw [x_uf_ne (by omega)]; exact h6 j) e)
        refine ⟨_, rfl, ?_⟩
        rw [e2] at e
        simp only at e
        have b2 := zop_b e2
        have hzv := zval_b (f := f) (t := x_tg t i) r (by omega)
        have hS2 := hA2.s hS
        have fin : ∀ g3 : Nat → Nat → Int, zA g2 g3 (zval f (x_tg t i) r).2 → x_V S 30 88 [some (.ref 3), some (.ref 6), some (.int (I c)), some (.int (I i)), some (.int (I (x_tg t i)))] [.int (I (zval f (x_tg t i) r).1), .int (I i), .ref 7] (x_vm g3) n Q := by
          intro g3 hA3
          have hA3' := hA2.tr hA3
          have u3 : g3 7 = g1 7 := funext fun j => hA3'.2 _ _ (by omega)
          have hR3 : zR g (x_uf g3 7 i (zval f (x_tg t i) r).1) := (hR.tr hA3'.r).tr zR.u7
          have v3 : ∀ j, j < 4 → -1 ≤ x_uf g3 7 i (zval f (x_tg t i) r).1 7 j ∧ x_uf g3 7 i (zval f (x_tg t i) r).1 7 j ≤ 999999 := fun j hj => by
            rw [zup_u, u3]
            unfold zup
            split
            · omega
            · exact hv j hj
          have h63 : ∀ j, x_uf g3 7 i (zval f (x_tg t i) r).1 6 j = g 6 j := fun j => by rw [x_uf_ne (by omega), hA3'.2 _ _ (by omega)]; exact h6 j
          have r3 : x_uf g3 7 i (zval f (x_tg t i) r).1 7 i = (zval f (x_tg t i) r).1 := x_uf_eq _ _ _ _
          have q3 : x_uf g3 7 i (zval f (x_tg t i) r).1 3 1 = (zval f (x_tg t i) r).2 := by rw [x_uf_ne (by omega)]; exact hA3.1
          refine v_iast d30_88 rfl (by omega) (by omega) (by omega) rfl (by decide) ?_
          rw [Int.toNat_natCast]
          refine s30_89 rfl ?_
          refine s30_90 (by first | assumption | rfl) (by first | assumption | (exact hpo _) | rfl | decide) ?_
          refine s30_93 rfl ?_
          refine v_iald d30_94 (by first | assumption | rfl) (by omega) (by omega) (by omega) (by first | assumption | (exact hpo _) | rfl | decide) (by first | assumption | decide | omega) ?_
          rw [Int.toNat_natCast, r3]
          refine s30_95 ?_
          refine s30_96 ⟨by omega, by omega⟩ ⟨by omega, by omega⟩ (fun h96 => ?_) (fun h96 => ?_)
          · refine s30_101 rfl ?_
            refine s30_104 ?_
            rw [if_neg (show ¬ (zval f (x_tg t i) r).1 = -1 by omega)] at e
            refine ih (i + 1) _ _ _ (by omega) hR3 h63 e6 (zR.s (g := g1) (fun a j q1 q2 q3 => by rw [x_uf_ne (fun z => q3 z.1)]; exact hA3'.2 a j q1) hS) v3 q3 (by omega) (by omega) ?_
            rw [zup_u, u3]
            exact e
          · refine s30_99 ?_
            refine s30_100 (st := []) (by omega) ?_
            rw [if_pos (show (zval f (x_tg t i) r).1 = -1 by omega)] at e
            exact hN _ hR3 v3 h63 e
        refine s30_40 ⟨by omega, by omega⟩ (fun h40 => ?_) (fun h40 => ?_)
        · refine s30_65 rfl ?_
          refine s30_66 (by first | assumption | rfl) (by first | assumption | (exact hpo _) | rfl | decide) ?_
          refine s30_69 rfl ?_
          refine s30_70 rfl ?_
          refine s30_72 ?_
          refine s30_74 ⟨by omega, by omega⟩ ⟨by omega, by omega⟩ (fun h74 => ?_) (fun h74 => ?_)
          · refine s30_84 rfl ?_
            refine s30_85 (by first | assumption | rfl) (by simp) ?_
            have ez : zval f (x_tg t i) r = znum f r := if_neg (by omega)
            rw [ez] at fin
            refine c33 hS2 hA2.1 ⟨by omega, by omega⟩ (fun g3 hA3 => ?_)
            refine ⟨_, rfl, ?_⟩
            exact fin _ hA3
          · refine s30_77 rfl ?_
            refine s30_78 (by first | assumption | rfl) (by simp) ?_
            have ez : zval f (x_tg t i) r = (zyn f r, r + 2) := if_pos (by omega)
            rw [ez] at fin
            refine c35 hS2 hA2.1 ⟨by omega, by omega⟩ (fun g3 hA3 => ?_)
            refine ⟨_, rfl, ?_⟩
            refine s30_81 ?_
            exact fin _ hA3
        · exact absurd h40 (by decide)
theorem c30 {t : Int} (ht : ib t) (e6 : g 6 0 = t) (hS : zS g f) (hv : ∀ i, i < 4 → -1 ≤ g 7 i ∧ g 7 i ≤ 999999) (hp : g 3 1 = p) (h0 : 0 ≤ p ∧ p ≤ 800) (hN : ∀ g', zR g g' → (∀ i, i < 4 → -1 ≤ g' 7 i ∧ g' 7 i ≤ 999999) → (∀ i, g' 6 i = g 6 i) → zown f t (x_fc t).toNat 0 p (g 7) = none → Q (.inl (some (.int (I 0)))) (x_vm g') n)
    (hY : ∀ u q g', zR g g' → (∀ i, i < 4 → -1 ≤ g' 7 i ∧ g' 7 i ≤ 999999) → (∀ i, g' 6 i = g 6 i) → zown f t (x_fc t).toNat 0 p (g 7) = some (u, q) → g' 7 = u → g' 3 1 = q → Q (.inl (some (.int (I 1)))) (x_vm g') n) : x_V S 30 0 [some (.ref 3), some (.ref 6), none, none, none] [] (x_vm g) n Q := by
  have hc := x_fc_b t
  refine s30_0 rfl ?_
  refine s30_1 rfl rfl (by decide) ?_
  rw [e6]
  refine s30_4 (by simp) ?_
  refine c2 ht ?_
  refine ⟨_, rfl, ?_⟩
  refine s30_7 ?_
  refine s30_8 ?_
  refine s30_9 ?_
  rw [show I (x_fc t) = I (((x_fc t).toNat : Nat) : Int) by rw [show (((x_fc t).toNat : Nat) : Int) = x_fc t by omega]]
  exact l30 (c := (x_fc t).toNat) (by omega) ht hN hY _ 0 g p _ (Nat.zero_add _) zR.rf (fun _ => rfl) e6 hS hv hp h0.1 (by omega) rfl
end CJ
