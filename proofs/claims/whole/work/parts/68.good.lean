/-! 68.good: the reference checks the frame at hand: its loop. -/
section MP
variable {S : Nat × (Nat → Int32)} {μ : xM} {g : Nat → Nat → Int} {n : Nat} {Q : xQ} {f : Int → Int} {sz : Int} {l : List tK} {t : Int}
/-- only a, b, c have changed -/
def tW (g g' : Nat → Nat → Int) : Prop := ∀ a j, ¬ (a = 100 ∧ 10 ≤ j ∧ j ≤ 12) → g' a j = g a j
theorem tW.rf : tW g g := fun _ _ _ => rfl
theorem tW.tr {g1 g2 : Nat → Nat → Int} (h1 : tW g g1) (h2 : tW g1 g2) : tW g g2 := fun a j q => (h2 a j q).trans (h1 a j q)
theorem tW.u3 {a b c : Int} : tW g (x_uf (x_uf (x_uf g 100 10 a) 100 11 b) 100 12 c) := fun a j q => by rw [x_uf_ne (by omega), x_uf_ne (by omega), x_uf_ne (by omega)]
theorem tW.cF {g1 : Nat → Nat → Int} (h : tW g g1) (hF : tF g f sz) : tF g1 f sz :=
  ⟨by rw [h _ _ (by omega)]; exact hF.1, hF.2.1, fun p h1 h2 => by rw [h _ _ (by omega)]; exact hF.2.2.1 p h1 h2, hF.2.2.2⟩
theorem tW.cT {g1 : Nat → Nat → Int} (h : tW g g1) (hT : tT g l) : tT g1 l :=
  ⟨by rw [h _ _ (by omega)]; exact hT.1, fun i hi => by rw [h _ _ (by omega), h _ _ (by omega), h _ _ (by omega)]; exact hT.2 i hi⟩
theorem l111e {l5 : List tK} {u : Nat → Int} (hT : tT g l) (hA : tB sz l)
    (hY : ∀ w x g', town f t (x_fc t).toNat 0 l5 u = some (w, [x]) → tR t (x_fc t).toNat 3 w (g' 100 10) (g' 100 11) (g' 100 12) → tW g g' → Q (.inl (some (.int (I 1)))) (x_vm g') n)
    (hN : (∀ w x, town f t (x_fc t).toNat 0 l5 u ≠ some (w, [x])) → ∀ g', tW g g' → Q (.inl (some (.int (I 0)))) (x_vm g') n) (h3 : (x_fc t).toNat ≤ 3)
    {i : Nat} {r : Int} {w4 w5 : Option Value} {g1 : Nat → Nat → Int} (hW : tW g g1) (hi : i ≤ 8) (hJ : tJ f t l l5 u 3 i r (g1 100 10) (g1 100 11) (g1 100 12)) : x_V S 111 186 [some (.ref 100), some (.int (I i)), some (.int (I r)), some (.int (I (3 : Nat))), w4, w5] [] (x_vm g1) n Q := by
  have k4 := (hW.cT hT).1
  have hl := hA.1
  rcases hJ with ⟨h1, h2⟩ | ⟨h1, h2, w, h4, h5⟩
  · rw [h1]
    have hN := hN h2 g1 hW
    refine s111_186 rfl ?_
    refine s111_187 ?_
    refine s111_188 ⟨by omega, by omega⟩ ⟨by omega, by omega⟩ (fun h188 => ?_) (fun h188 => ?_)
    · refine s111_343 rfl ?_
      refine s111_344 ⟨by omega, by omega⟩ (fun h344 => ?_) (fun h344 => ?_)
      · refine s111_361 ?_
        refine s111_362 (st := []) (by omega) ?_
        exact hN
      · exact absurd rfl h344
    · exfalso; omega
  · rw [show (x_fc t).toNat - 3 = 0 by omega] at h4
    rw [h1]
    by_cases c : i + 1 = l.length
    · have hY := hY w (l.getD i tD) g1 (by rw [h4, tdrop (by omega), List.drop_of_length_le (by omega)]; rfl) h5 hW
      refine s111_186 rfl ?_
      refine s111_187 ?_
      refine s111_188 ⟨by omega, by omega⟩ ⟨by omega, by omega⟩ (fun h188 => ?_) (fun h188 => ?_)
      · refine s111_343 rfl ?_
        refine s111_344 ⟨by omega, by omega⟩ (fun h344 => ?_) (fun h344 => ?_)
        · exfalso; omega
        · refine s111_347 rfl ?_
          refine s111_348 rfl ?_
          refine s111_349 (by first | assumption | rfl) (by first | assumption | (exact hpo _) | rfl | decide) (by first | assumption | decide | omega) ?_
          refine s111_352 ?_
          refine s111_353 ?_
          refine s111_354 ⟨by omega, by omega⟩ ⟨by omega, by omega⟩ (fun h354 => ?_) (fun h354 => ?_)
          · exfalso; omega
          · refine s111_357 ?_
            refine s111_358 ?_
            refine s111_362 (st := []) (by omega) ?_
            exact hY
      · exfalso; omega
    · have hN := hN (fun w x e => by
        rw [h4] at e
        have e := congrArg (fun z => z.2.length) (Option.some.inj e)
        simp only [List.length_cons, List.length_nil, List.length_drop] at e
        omega) g1 hW
      refine s111_186 rfl ?_
      refine s111_187 ?_
      refine s111_188 ⟨by omega, by omega⟩ ⟨by omega, by omega⟩ (fun h188 => ?_) (fun h188 => ?_)
      · refine s111_343 rfl ?_
        refine s111_344 ⟨by omega, by omega⟩ (fun h344 => ?_) (fun h344 => ?_)
        · refine s111_361 ?_
          refine s111_362 (st := []) (by omega) ?_
          first | exact hN | (exfalso; omega)
        · refine s111_347 rfl ?_
          refine s111_348 rfl ?_
          refine s111_349 (by first | assumption | rfl) (by first | assumption | (exact hpo _) | rfl | decide) (by first | assumption | decide | omega) ?_
          refine s111_352 ?_
          refine s111_353 ?_
          refine s111_354 ⟨by omega, by omega⟩ ⟨by omega, by omega⟩ (fun h354 => ?_) (fun h354 => ?_)
          · refine s111_361 ?_
            refine s111_362 (st := []) (by omega) ?_
            first | exact hN | (exfalso; omega)
          · exfalso; omega
      · exfalso; omega
theorem l111s {l5 : List tK} {u : Nat → Int} (hF : tF g f sz) (hT : tT g l) (hA : tB sz l) (ht : zpeer t) (h8 : g 100 8 = t) (h48 : (x_fc 48).toNat = 1)
    {k : Nat} (hk : k < 3) (ih : ∀ (i : Nat) (r : Int) (w4 w5 : Option Value) (g1 : Nat → Nat → Int), tW g g1 → i ≤ 5 + (k + 1) → tJ f t l l5 u (k + 1) i r (g1 100 10) (g1 100 11) (g1 100 12) → x_V S 111 186 [some (.ref 100), some (.int (I i)), some (.int (I r)), some (.int (I (k + 1 : Nat))), w4, w5] [] (x_vm g1) n Q)
    (i : Nat) (r : Int) (w4 w5 : Option Value) (g1 : Nat → Nat → Int) (hW : tW g g1) (hi : i ≤ 5 + k) (hJ : tJ f t l l5 u k i r (g1 100 10) (g1 100 11) (g1 100 12)) : x_V S 111 186 [some (.ref 100), some (.int (I i)), some (.int (I r)), some (.int (I k)), w4, w5] [] (x_vm g1) n Q := by
  have hF1 := hW.cF hF
  have hT1 := hW.cT hT
  have e8 : g1 100 8 = t := (hW _ _ (by omega)).trans h8
  have hr : r = 0 ∨ r = 1 := hJ.elim (fun z => Or.inl z.1) (fun z => Or.inr z.1)
  have hb := hF.2.2.2.1
  have vb := tvv_b (l := l) (t := t) hb (k := k) (i := i)
  have hxt : xty t := ht.elim (by omega) (by omega)
  have htr : 48 ≤ t ∧ t ≤ 71 := by omega
  have tg := x_tga t (zpeer_m ht) ⟨k, by omega⟩
  simp only at tg
  have hh48 : t = 48 → k = 0 ∨ ¬ k < (x_fc t).toNat := fun z => by rw [z, h48]; omega
  have tgb : 0 ≤ x_tg t k ∧ x_tg t k ≤ 999 := by
    by_cases c : k < (x_fc t).toNat
    · have := tg.1 c; omega
    · have := tg.2.1 c; omega
  have hskip : x_tg t k ≤ 0 → ¬ k < (x_fc t).toNat ∧ (t ≠ 48 ∨ 0 < k) := fun z => by
    have z1 : ¬ k < (x_fc t).toNat := fun z => by have := tg.1 z; omega
    refine ⟨z1, ?_⟩
    by_cases c : t = 48
    · rw [c, h48] at z1
      omega
    · exact Or.inl c
  have fin : k < (x_fc t).toNat → ∀ r' : Int, ((r' = 1 ∧ r = 1 ∧ 0 ≤ tvv f l t k i ∧ (t ≠ 52 ∨ k = 0 ∨ tvv f l t k i = 89 ∨ tvv f l t k i = 78)) ∨ (r' = 0 ∧ ¬ (r = 1 ∧ 0 ≤ tvv f l t k i ∧ (t ≠ 52 ∨ k = 0 ∨ tvv f l t k i = 89 ∨ tvv f l t k i = 78)))) → x_V S 111 280 [some (.ref 100), some (.int (I i)), some (.int (I r)), some (.int (I k)), some (.int (I (x_tg t k))), some (.int (I (tvv f l t k i)))] [.int (I r')] (x_vm g1) n Q := by
    intro hkc r' hr'
    have hh48 : t = 48 → k = 0 := fun z => (hh48 z).elim id (fun q => absurd hkc q)
    rcases hr' with ⟨e', hr'⟩ | ⟨e', hr'⟩
    · rw [e']
      refine s111_280 ?_
      refine s111_281 rfl ?_
      refine s111_282 rfl ?_
      refine s111_283 ⟨by omega, by omega⟩ (fun h283 => ?_) (fun h283 => ?_)
      · refine s111_291 rfl ?_
        refine s111_292 (by first | assumption | rfl) (by first | assumption | (exact hpo _) | rfl | decide) (by first | assumption | decide | omega) ?_
        refine s111_295 (by first | assumption | rfl) (by first | assumption | (exact hpo _) | rfl | decide) (by first | assumption | decide | omega) ?_
        refine s111_298 rfl ?_
        refine s111_299 rfl ?_
        refine s111_300 ?_
        refine s111_301 ⟨by omega, by omega⟩ ⟨by omega, by omega⟩ (fun h301 => ?_) (fun h301 => ?_)
        · refine s111_309 rfl ?_
          refine s111_310 (by first | assumption | rfl) (by first | assumption | (exact hpo _) | rfl | decide) (by first | assumption | decide | omega) ?_
          rw [x_uf_ne (by omega)]
          refine s111_313 (by first | assumption | rfl) (by first | assumption | (exact hpo _) | rfl | decide) (by first | assumption | decide | omega) ?_
          refine s111_316 rfl ?_
          refine s111_317 rfl ?_
          refine s111_318 ?_
          refine s111_319 ⟨by omega, by omega⟩ ⟨by omega, by omega⟩ (fun h319 => ?_) (fun h319 => ?_)
          · refine s111_327 rfl ?_
            refine s111_328 (by first | assumption | rfl) (by first | assumption | (exact hpo _) | rfl | decide) (by first | assumption | decide | omega) ?_
            rw [x_uf_ne (by omega), x_uf_ne (by omega)]
            refine s111_331 (by first | assumption | rfl) (by first | assumption | (exact hpo _) | rfl | decide) (by first | assumption | decide | omega) ?_
            refine s111_334 rfl ?_
            refine s111_337 rfl ?_
            refine s111_340 ?_
            first
              | (exfalso; omega)
              | exact ih (i + 1) _ _ _ _ (hW.tr tW.u3) (by omega) (tJ.yes ht hb hkc hJ (by omega) (by rw [x_uf_ne (by omega), x_uf_ne (by omega), x_uf_eq, if_pos (show k = 0 by omega)]) (by rw [x_uf_ne (by omega), x_uf_eq, if_neg (show ¬ k = 1 by omega)]) (by rw [x_uf_eq, if_neg (show ¬ k = 2 by omega)]))
              | exact ih (i + 1) _ _ _ _ (hW.tr tW.u3) (by omega) (tJ.yes ht hb hkc hJ (by omega) (by rw [x_uf_ne (by omega), x_uf_ne (by omega), x_uf_eq, if_neg (show ¬ k = 0 by omega)]) (by rw [x_uf_ne (by omega), x_uf_eq, if_pos (show k = 1 by omega)]) (by rw [x_uf_eq, if_neg (show ¬ k = 2 by omega)]))
              | exact ih (i + 1) _ _ _ _ (hW.tr tW.u3) (by omega) (tJ.yes ht hb hkc hJ (by omega) (by rw [x_uf_ne (by omega), x_uf_ne (by omega), x_uf_eq, if_neg (show ¬ k = 0 by omega)]) (by rw [x_uf_ne (by omega), x_uf_eq, if_neg (show ¬ k = 1 by omega)]) (by rw [x_uf_eq, if_pos (show k = 2 by omega)]))
              | exact ih (i + 1) _ _ _ _ (hW.tr tW.u3) (by omega) (tJ.yes ht hb hkc hJ (by omega) (by rw [x_uf_ne (by omega), x_uf_ne (by omega), x_uf_eq, if_neg (show ¬ k = 0 by omega)]) (by rw [x_uf_ne (by omega), x_uf_eq, if_neg (show ¬ k = 1 by omega)]) (by rw [x_uf_eq, if_neg (show ¬ k = 2 by omega)]))
          · refine s111_322 rfl ?_
            refine s111_324 ?_
            refine s111_331 (by first | assumption | rfl) (by first | assumption | (exact hpo _) | rfl | decide) (by first | assumption | decide | omega) ?_
            refine s111_334 rfl ?_
            refine s111_337 rfl ?_
            refine s111_340 ?_
            first
              | (exfalso; omega)
              | exact ih (i + 1) _ _ _ _ (hW.tr tW.u3) (by omega) (tJ.yes ht hb hkc hJ (by omega) (by rw [x_uf_ne (by omega), x_uf_ne (by omega), x_uf_eq, if_pos (show k = 0 by omega)]) (by rw [x_uf_ne (by omega), x_uf_eq, if_neg (show ¬ k = 1 by omega)]) (by rw [x_uf_eq, if_neg (show ¬ k = 2 by omega)]))
              | exact ih (i + 1) _ _ _ _ (hW.tr tW.u3) (by omega) (tJ.yes ht hb hkc hJ (by omega) (by rw [x_uf_ne (by omega), x_uf_ne (by omega), x_uf_eq, if_neg (show ¬ k = 0 by omega)]) (by rw [x_uf_ne (by omega), x_uf_eq, if_pos (show k = 1 by omega)]) (by rw [x_uf_eq, if_neg (show ¬ k = 2 by omega)]))
              | exact ih (i + 1) _ _ _ _ (hW.tr tW.u3) (by omega) (tJ.yes ht hb hkc hJ (by omega) (by rw [x_uf_ne (by omega), x_uf_ne (by omega), x_uf_eq, if_neg (show ¬ k = 0 by omega)]) (by rw [x_uf_ne (by omega), x_uf_eq, if_neg (show ¬ k = 1 by omega)]) (by rw [x_uf_eq, if_pos (show k = 2 by omega)]))
              | exact ih (i + 1) _ _ _ _ (hW.tr tW.u3) (by omega) (tJ.yes ht hb hkc hJ (by omega) (by rw [x_uf_ne (by omega), x_uf_ne (by omega), x_uf_eq, if_neg (show ¬ k = 0 by omega)]) (by rw [x_uf_ne (by omega), x_uf_eq, if_neg (show ¬ k = 1 by omega)]) (by rw [x_uf_eq, if_neg (show ¬ k = 2 by omega)]))
        · refine s111_304 rfl ?_
          refine s111_306 ?_
          refine s111_313 (by first | assumption | rfl) (by first | assumption | (exact hpo _) | rfl | decide) (by first | assumption | decide | omega) ?_
          refine s111_316 rfl ?_
          refine s111_317 rfl ?_
          refine s111_318 ?_
          refine s111_319 ⟨by omega, by omega⟩ ⟨by omega, by omega⟩ (fun h319 => ?_) (fun h319 => ?_)
          · refine s111_327 rfl ?_
            refine s111_328 (by first | assumption | rfl) (by first | assumption | (exact hpo _) | rfl | decide) (by first | assumption | decide | omega) ?_
            rw [x_uf_ne (by omega), x_uf_ne (by omega)]
            refine s111_331 (by first | assumption | rfl) (by first | assumption | (exact hpo _) | rfl | decide) (by first | assumption | decide | omega) ?_
            refine s111_334 rfl ?_
            refine s111_337 rfl ?_
            refine s111_340 ?_
            first
              | (exfalso; omega)
              | exact ih (i + 1) _ _ _ _ (hW.tr tW.u3) (by omega) (tJ.yes ht hb hkc hJ (by omega) (by rw [x_uf_ne (by omega), x_uf_ne (by omega), x_uf_eq, if_pos (show k = 0 by omega)]) (by rw [x_uf_ne (by omega), x_uf_eq, if_neg (show ¬ k = 1 by omega)]) (by rw [x_uf_eq, if_neg (show ¬ k = 2 by omega)]))
              | exact ih (i + 1) _ _ _ _ (hW.tr tW.u3) (by omega) (tJ.yes ht hb hkc hJ (by omega) (by rw [x_uf_ne (by omega), x_uf_ne (by omega), x_uf_eq, if_neg (show ¬ k = 0 by omega)]) (by rw [x_uf_ne (by omega), x_uf_eq, if_pos (show k = 1 by omega)]) (by rw [x_uf_eq, if_neg (show ¬ k = 2 by omega)]))
              | exact ih (i + 1) _ _ _ _ (hW.tr tW.u3) (by omega) (tJ.yes ht hb hkc hJ (by omega) (by rw [x_uf_ne (by omega), x_uf_ne (by omega), x_uf_eq, if_neg (show ¬ k = 0 by omega)]) (by rw [x_uf_ne (by omega), x_uf_eq, if_neg (show ¬ k = 1 by omega)]) (by rw [x_uf_eq, if_pos (show k = 2 by omega)]))
              | exact ih (i + 1) _ _ _ _ (hW.tr tW.u3) (by omega) (tJ.yes ht hb hkc hJ (by omega) (by rw [x_uf_ne (by omega), x_uf_ne (by omega), x_uf_eq, if_neg (show ¬ k = 0 by omega)]) (by rw [x_uf_ne (by omega), x_uf_eq, if_neg (show ¬ k = 1 by omega)]) (by rw [x_uf_eq, if_neg (show ¬ k = 2 by omega)]))
          · refine s111_322 rfl ?_
            refine s111_324 ?_
            refine s111_331 (by first | assumption | rfl) (by first | assumption | (exact hpo _) | rfl | decide) (by first | assumption | decide | omega) ?_
            refine s111_334 rfl ?_
            refine s111_337 rfl ?_
            refine s111_340 ?_
            first
              | (exfalso; omega)
              | exact ih (i + 1) _ _ _ _ (hW.tr tW.u3) (by omega) (tJ.yes ht hb hkc hJ (by omega) (by rw [x_uf_ne (by omega), x_uf_ne (by omega), x_uf_eq, if_pos (show k = 0 by omega)]) (by rw [x_uf_ne (by omega), x_uf_eq, if_neg (show ¬ k = 1 by omega)]) (by rw [x_uf_eq, if_neg (show ¬ k = 2 by omega)]))
              | exact ih (i + 1) _ _ _ _ (hW.tr tW.u3) (by omega) (tJ.yes ht hb hkc hJ (by omega) (by rw [x_uf_ne (by omega), x_uf_ne (by omega), x_uf_eq, if_neg (show ¬ k = 0 by omega)]) (by rw [x_uf_ne (by omega), x_uf_eq, if_pos (show k = 1 by omega)]) (by rw [x_uf_eq, if_neg (show ¬ k = 2 by omega)]))
              | exact ih (i + 1) _ _ _ _ (hW.tr tW.u3) (by omega) (tJ.yes ht hb hkc hJ (by omega) (by rw [x_uf_ne (by omega), x_uf_ne (by omega), x_uf_eq, if_neg (show ¬ k = 0 by omega)]) (by rw [x_uf_ne (by omega), x_uf_eq, if_neg (show ¬ k = 1 by omega)]) (by rw [x_uf_eq, if_pos (show k = 2 by omega)]))
              | exact ih (i + 1) _ _ _ _ (hW.tr tW.u3) (by omega) (tJ.yes ht hb hkc hJ (by omega) (by rw [x_uf_ne (by omega), x_uf_ne (by omega), x_uf_eq, if_neg (show ¬ k = 0 by omega)]) (by rw [x_uf_ne (by omega), x_uf_eq, if_neg (show ¬ k = 1 by omega)]) (by rw [x_uf_eq, if_neg (show ¬ k = 2 by omega)]))
      · refine s111_286 rfl ?_
        refine s111_288 ?_
        refine s111_295 (by first | assumption | rfl) (by first | assumption | (exact hpo _) | rfl | decide) (by first | assumption | decide | omega) ?_
        refine s111_298 rfl ?_
        refine s111_299 rfl ?_
        refine s111_300 ?_
        refine s111_301 ⟨by omega, by omega⟩ ⟨by omega, by omega⟩ (fun h301 => ?_) (fun h301 => ?_)
        · refine s111_309 rfl ?_
          refine s111_310 (by first | assumption | rfl) (by first | assumption | (exact hpo _) | rfl | decide) (by first | assumption | decide | omega) ?_
          rw [x_uf_ne (by omega)]
          refine s111_313 (by first | assumption | rfl) (by first | assumption | (exact hpo _) | rfl | decide) (by first | assumption | decide | omega) ?_
          refine s111_316 rfl ?_
          refine s111_317 rfl ?_
          refine s111_318 ?_
          refine s111_319 ⟨by omega, by omega⟩ ⟨by omega, by omega⟩ (fun h319 => ?_) (fun h319 => ?_)
          · refine s111_327 rfl ?_
            refine s111_328 (by first | assumption | rfl) (by first | assumption | (exact hpo _) | rfl | decide) (by first | assumption | decide | omega) ?_
            rw [x_uf_ne (by omega), x_uf_ne (by omega)]
            refine s111_331 (by first | assumption | rfl) (by first | assumption | (exact hpo _) | rfl | decide) (by first | assumption | decide | omega) ?_
            refine s111_334 rfl ?_
            refine s111_337 rfl ?_
            refine s111_340 ?_
            first
              | (exfalso; omega)
              | exact ih (i + 1) _ _ _ _ (hW.tr tW.u3) (by omega) (tJ.yes ht hb hkc hJ (by omega) (by rw [x_uf_ne (by omega), x_uf_ne (by omega), x_uf_eq, if_pos (show k = 0 by omega)]) (by rw [x_uf_ne (by omega), x_uf_eq, if_neg (show ¬ k = 1 by omega)]) (by rw [x_uf_eq, if_neg (show ¬ k = 2 by omega)]))
              | exact ih (i + 1) _ _ _ _ (hW.tr tW.u3) (by omega) (tJ.yes ht hb hkc hJ (by omega) (by rw [x_uf_ne (by omega), x_uf_ne (by omega), x_uf_eq, if_neg (show ¬ k = 0 by omega)]) (by rw [x_uf_ne (by omega), x_uf_eq, if_pos (show k = 1 by omega)]) (by rw [x_uf_eq, if_neg (show ¬ k = 2 by omega)]))
              | exact ih (i + 1) _ _ _ _ (hW.tr tW.u3) (by omega) (tJ.yes ht hb hkc hJ (by omega) (by rw [x_uf_ne (by omega), x_uf_ne (by omega), x_uf_eq, if_neg (show ¬ k = 0 by omega)]) (by rw [x_uf_ne (by omega), x_uf_eq, if_neg (show ¬ k = 1 by omega)]) (by rw [x_uf_eq, if_pos (show k = 2 by omega)]))
              | exact ih (i + 1) _ _ _ _ (hW.tr tW.u3) (by omega) (tJ.yes ht hb hkc hJ (by omega) (by rw [x_uf_ne (by omega), x_uf_ne (by omega), x_uf_eq, if_neg (show ¬ k = 0 by omega)]) (by rw [x_uf_ne (by omega), x_uf_eq, if_neg (show ¬ k = 1 by omega)]) (by rw [x_uf_eq, if_neg (show ¬ k = 2 by omega)]))
          · refine s111_322 rfl ?_
            refine s111_324 ?_
            refine s111_331 (by first | assumption | rfl) (by first | assumption | (exact hpo _) | rfl | decide) (by first | assumption | decide | omega) ?_
            refine s111_334 rfl ?_
            refine s111_337 rfl ?_
            refine s111_340 ?_
            first
              | (exfalso; omega)
              | exact ih (i + 1) _ _ _ _ (hW.tr tW.u3) (by omega) (tJ.yes ht hb hkc hJ (by omega) (by rw [x_uf_ne (by omega), x_uf_ne (by omega), x_uf_eq, if_pos (show k = 0 by omega)]) (by rw [x_uf_ne (by omega), x_uf_eq, if_neg (show ¬ k = 1 by omega)]) (by rw [x_uf_eq, if_neg (show ¬ k = 2 by omega)]))
              | exact ih (i + 1) _ _ _ _ (hW.tr tW.u3) (by omega) (tJ.yes ht hb hkc hJ (by omega) (by rw [x_uf_ne (by omega), x_uf_ne (by omega), x_uf_eq, if_neg (show ¬ k = 0 by omega)]) (by rw [x_uf_ne (by omega), x_uf_eq, if_pos (show k = 1 by omega)]) (by rw [x_uf_eq, if_neg (show ¬ k = 2 by omega)]))
              | exact ih (i + 1) _ _ _ _ (hW.tr tW.u3) (by omega) (tJ.yes ht hb hkc hJ (by omega) (by rw [x_uf_ne (by omega), x_uf_ne (by omega), x_uf_eq, if_neg (show ¬ k = 0 by omega)]) (by rw [x_uf_ne (by omega), x_uf_eq, if_neg (show ¬ k = 1 by omega)]) (by rw [x_uf_eq, if_pos (show k = 2 by omega)]))
              | exact ih (i + 1) _ _ _ _ (hW.tr tW.u3) (by omega) (tJ.yes ht hb hkc hJ (by omega) (by rw [x_uf_ne (by omega), x_uf_ne (by omega), x_uf_eq, if_neg (show ¬ k = 0 by omega)]) (by rw [x_uf_ne (by omega), x_uf_eq, if_neg (show ¬ k = 1 by omega)]) (by rw [x_uf_eq, if_neg (show ¬ k = 2 by omega)]))
        · refine s111_304 rfl ?_
          refine s111_306 ?_
          refine s111_313 (by first | assumption | rfl) (by first | assumption | (exact hpo _) | rfl | decide) (by first | assumption | decide | omega) ?_
          refine s111_316 rfl ?_
          refine s111_317 rfl ?_
          refine s111_318 ?_
          refine s111_319 ⟨by omega, by omega⟩ ⟨by omega, by omega⟩ (fun h319 => ?_) (fun h319 => ?_)
          · refine s111_327 rfl ?_
            refine s111_328 (by first | assumption | rfl) (by first | assumption | (exact hpo _) | rfl | decide) (by first | assumption | decide | omega) ?_
            rw [x_uf_ne (by omega), x_uf_ne (by omega)]
            refine s111_331 (by first | assumption | rfl) (by first | assumption | (exact hpo _) | rfl | decide) (by first | assumption | decide | omega) ?_
            refine s111_334 rfl ?_
            refine s111_337 rfl ?_
            refine s111_340 ?_
            first
              | (exfalso; omega)
              | exact ih (i + 1) _ _ _ _ (hW.tr tW.u3) (by omega) (tJ.yes ht hb hkc hJ (by omega) (by rw [x_uf_ne (by omega), x_uf_ne (by omega), x_uf_eq, if_pos (show k = 0 by omega)]) (by rw [x_uf_ne (by omega), x_uf_eq, if_neg (show ¬ k = 1 by omega)]) (by rw [x_uf_eq, if_neg (show ¬ k = 2 by omega)]))
              | exact ih (i + 1) _ _ _ _ (hW.tr tW.u3) (by omega) (tJ.yes ht hb hkc hJ (by omega) (by rw [x_uf_ne (by omega), x_uf_ne (by omega), x_uf_eq, if_neg (show ¬ k = 0 by omega)]) (by rw [x_uf_ne (by omega), x_uf_eq, if_pos (show k = 1 by omega)]) (by rw [x_uf_eq, if_neg (show ¬ k = 2 by omega)]))
              | exact ih (i + 1) _ _ _ _ (hW.tr tW.u3) (by omega) (tJ.yes ht hb hkc hJ (by omega) (by rw [x_uf_ne (by omega), x_uf_ne (by omega), x_uf_eq, if_neg (show ¬ k = 0 by omega)]) (by rw [x_uf_ne (by omega), x_uf_eq, if_neg (show ¬ k = 1 by omega)]) (by rw [x_uf_eq, if_pos (show k = 2 by omega)]))
              | exact ih (i + 1) _ _ _ _ (hW.tr tW.u3) (by omega) (tJ.yes ht hb hkc hJ (by omega) (by rw [x_uf_ne (by omega), x_uf_ne (by omega), x_uf_eq, if_neg (show ¬ k = 0 by omega)]) (by rw [x_uf_ne (by omega), x_uf_eq, if_neg (show ¬ k = 1 by omega)]) (by rw [x_uf_eq, if_neg (show ¬ k = 2 by omega)]))
          · refine s111_322 rfl ?_
            refine s111_324 ?_
            refine s111_331 (by first | assumption | rfl) (by first | assumption | (exact hpo _) | rfl | decide) (by first | assumption | decide | omega) ?_
            refine s111_334 rfl ?_
            refine s111_337 rfl ?_
            refine s111_340 ?_
            first
              | (exfalso; omega)
              | exact ih (i + 1) _ _ _ _ (hW.tr tW.u3) (by omega) (tJ.yes ht hb hkc hJ (by omega) (by rw [x_uf_ne (by omega), x_uf_ne (by omega), x_uf_eq, if_pos (show k = 0 by omega)]) (by rw [x_uf_ne (by omega), x_uf_eq, if_neg (show ¬ k = 1 by omega)]) (by rw [x_uf_eq, if_neg (show ¬ k = 2 by omega)]))
              | exact ih (i + 1) _ _ _ _ (hW.tr tW.u3) (by omega) (tJ.yes ht hb hkc hJ (by omega) (by rw [x_uf_ne (by omega), x_uf_ne (by omega), x_uf_eq, if_neg (show ¬ k = 0 by omega)]) (by rw [x_uf_ne (by omega), x_uf_eq, if_pos (show k = 1 by omega)]) (by rw [x_uf_eq, if_neg (show ¬ k = 2 by omega)]))
              | exact ih (i + 1) _ _ _ _ (hW.tr tW.u3) (by omega) (tJ.yes ht hb hkc hJ (by omega) (by rw [x_uf_ne (by omega), x_uf_ne (by omega), x_uf_eq, if_neg (show ¬ k = 0 by omega)]) (by rw [x_uf_ne (by omega), x_uf_eq, if_neg (show ¬ k = 1 by omega)]) (by rw [x_uf_eq, if_pos (show k = 2 by omega)]))
              | exact ih (i + 1) _ _ _ _ (hW.tr tW.u3) (by omega) (tJ.yes ht hb hkc hJ (by omega) (by rw [x_uf_ne (by omega), x_uf_ne (by omega), x_uf_eq, if_neg (show ¬ k = 0 by omega)]) (by rw [x_uf_ne (by omega), x_uf_eq, if_neg (show ¬ k = 1 by omega)]) (by rw [x_uf_eq, if_neg (show ¬ k = 2 by omega)]))
    · rw [e']
      refine s111_280 ?_
      refine s111_281 rfl ?_
      refine s111_282 rfl ?_
      refine s111_283 ⟨by omega, by omega⟩ (fun h283 => ?_) (fun h283 => ?_)
      · refine s111_291 rfl ?_
        refine s111_292 (by first | assumption | rfl) (by first | assumption | (exact hpo _) | rfl | decide) (by first | assumption | decide | omega) ?_
        refine s111_295 (by first | assumption | rfl) (by first | assumption | (exact hpo _) | rfl | decide) (by first | assumption | decide | omega) ?_
        refine s111_298 rfl ?_
        refine s111_299 rfl ?_
        refine s111_300 ?_
        refine s111_301 ⟨by omega, by omega⟩ ⟨by omega, by omega⟩ (fun h301 => ?_) (fun h301 => ?_)
        · refine s111_309 rfl ?_
          refine s111_310 (by first | assumption | rfl) (by first | assumption | (exact hpo _) | rfl | decide) (by first | assumption | decide | omega) ?_
          rw [x_uf_ne (by omega)]
          refine s111_313 (by first | assumption | rfl) (by first | assumption | (exact hpo _) | rfl | decide) (by first | assumption | decide | omega) ?_
          refine s111_316 rfl ?_
          refine s111_317 rfl ?_
          refine s111_318 ?_
          refine s111_319 ⟨by omega, by omega⟩ ⟨by omega, by omega⟩ (fun h319 => ?_) (fun h319 => ?_)
          · refine s111_327 rfl ?_
            refine s111_328 (by first | assumption | rfl) (by first | assumption | (exact hpo _) | rfl | decide) (by first | assumption | decide | omega) ?_
            rw [x_uf_ne (by omega), x_uf_ne (by omega)]
            refine s111_331 (by first | assumption | rfl) (by first | assumption | (exact hpo _) | rfl | decide) (by first | assumption | decide | omega) ?_
            refine s111_334 rfl ?_
            refine s111_337 rfl ?_
            refine s111_340 ?_
            first
              | (exfalso; omega)
              | exact ih (i + 1) _ _ _ _ (hW.tr tW.u3) (by omega) (tJ.no ht hkc hh48 hJ hr')
          · refine s111_322 rfl ?_
            refine s111_324 ?_
            refine s111_331 (by first | assumption | rfl) (by first | assumption | (exact hpo _) | rfl | decide) (by first | assumption | decide | omega) ?_
            refine s111_334 rfl ?_
            refine s111_337 rfl ?_
            refine s111_340 ?_
            first
              | (exfalso; omega)
              | exact ih (i + 1) _ _ _ _ (hW.tr tW.u3) (by omega) (tJ.no ht hkc hh48 hJ hr')
        · refine s111_304 rfl ?_
          refine s111_306 ?_
          refine s111_313 (by first | assumption | rfl) (by first | assumption | (exact hpo _) | rfl | decide) (by first | assumption | decide | omega) ?_
          refine s111_316 rfl ?_
          refine s111_317 rfl ?_
          refine s111_318 ?_
          refine s111_319 ⟨by omega, by omega⟩ ⟨by omega, by omega⟩ (fun h319 => ?_) (fun h319 => ?_)
          · refine s111_327 rfl ?_
            refine s111_328 (by first | assumption | rfl) (by first | assumption | (exact hpo _) | rfl | decide) (by first | assumption | decide | omega) ?_
            rw [x_uf_ne (by omega), x_uf_ne (by omega)]
            refine s111_331 (by first | assumption | rfl) (by first | assumption | (exact hpo _) | rfl | decide) (by first | assumption | decide | omega) ?_
            refine s111_334 rfl ?_
            refine s111_337 rfl ?_
            refine s111_340 ?_
            first
              | (exfalso; omega)
              | exact ih (i + 1) _ _ _ _ (hW.tr tW.u3) (by omega) (tJ.no ht hkc hh48 hJ hr')
          · refine s111_322 rfl ?_
            refine s111_324 ?_
            refine s111_331 (by first | assumption | rfl) (by first | assumption | (exact hpo _) | rfl | decide) (by first | assumption | decide | omega) ?_
            refine s111_334 rfl ?_
            refine s111_337 rfl ?_
            refine s111_340 ?_
            first
              | (exfalso; omega)
              | exact ih (i + 1) _ _ _ _ (hW.tr tW.u3) (by omega) (tJ.no ht hkc hh48 hJ hr')
      · refine s111_286 rfl ?_
        refine s111_288 ?_
        refine s111_295 (by first | assumption | rfl) (by first | assumption | (exact hpo _) | rfl | decide) (by first | assumption | decide | omega) ?_
        refine s111_298 rfl ?_
        refine s111_299 rfl ?_
        refine s111_300 ?_
        refine s111_301 ⟨by omega, by omega⟩ ⟨by omega, by omega⟩ (fun h301 => ?_) (fun h301 => ?_)
        · refine s111_309 rfl ?_
          refine s111_310 (by first | assumption | rfl) (by first | assumption | (exact hpo _) | rfl | decide) (by first | assumption | decide | omega) ?_
          rw [x_uf_ne (by omega)]
          refine s111_313 (by first | assumption | rfl) (by first | assumption | (exact hpo _) | rfl | decide) (by first | assumption | decide | omega) ?_
          refine s111_316 rfl ?_
          refine s111_317 rfl ?_
          refine s111_318 ?_
          refine s111_319 ⟨by omega, by omega⟩ ⟨by omega, by omega⟩ (fun h319 => ?_) (fun h319 => ?_)
          · refine s111_327 rfl ?_
            refine s111_328 (by first | assumption | rfl) (by first | assumption | (exact hpo _) | rfl | decide) (by first | assumption | decide | omega) ?_
            rw [x_uf_ne (by omega), x_uf_ne (by omega)]
            refine s111_331 (by first | assumption | rfl) (by first | assumption | (exact hpo _) | rfl | decide) (by first | assumption | decide | omega) ?_
            refine s111_334 rfl ?_
            refine s111_337 rfl ?_
            refine s111_340 ?_
            first
              | (exfalso; omega)
              | exact ih (i + 1) _ _ _ _ (hW.tr tW.u3) (by omega) (tJ.no ht hkc hh48 hJ hr')
          · refine s111_322 rfl ?_
            refine s111_324 ?_
            refine s111_331 (by first | assumption | rfl) (by first | assumption | (exact hpo _) | rfl | decide) (by first | assumption | decide | omega) ?_
            refine s111_334 rfl ?_
            refine s111_337 rfl ?_
            refine s111_340 ?_
            first
              | (exfalso; omega)
              | exact ih (i + 1) _ _ _ _ (hW.tr tW.u3) (by omega) (tJ.no ht hkc hh48 hJ hr')
        · refine s111_304 rfl ?_
          refine s111_306 ?_
          refine s111_313 (by first | assumption | rfl) (by first | assumption | (exact hpo _) | rfl | decide) (by first | assumption | decide | omega) ?_
          refine s111_316 rfl ?_
          refine s111_317 rfl ?_
          refine s111_318 ?_
          refine s111_319 ⟨by omega, by omega⟩ ⟨by omega, by omega⟩ (fun h319 => ?_) (fun h319 => ?_)
          · refine s111_327 rfl ?_
            refine s111_328 (by first | assumption | rfl) (by first | assumption | (exact hpo _) | rfl | decide) (by first | assumption | decide | omega) ?_
            rw [x_uf_ne (by omega), x_uf_ne (by omega)]
            refine s111_331 (by first | assumption | rfl) (by first | assumption | (exact hpo _) | rfl | decide) (by first | assumption | decide | omega) ?_
            refine s111_334 rfl ?_
            refine s111_337 rfl ?_
            refine s111_340 ?_
            first
              | (exfalso; omega)
              | exact ih (i + 1) _ _ _ _ (hW.tr tW.u3) (by omega) (tJ.no ht hkc hh48 hJ hr')
          · refine s111_322 rfl ?_
            refine s111_324 ?_
            refine s111_331 (by first | assumption | rfl) (by first | assumption | (exact hpo _) | rfl | decide) (by first | assumption | decide | omega) ?_
            refine s111_334 rfl ?_
            refine s111_337 rfl ?_
            refine s111_340 ?_
            first
              | (exfalso; omega)
              | exact ih (i + 1) _ _ _ _ (hW.tr tW.u3) (by omega) (tJ.no ht hkc hh48 hJ hr')
  have mid : k < (x_fc t).toNat → x_V S 111 237 [some (.ref 100), some (.int (I i)), some (.int (I r)), some (.int (I k)), some (.int (I (x_tg t k))), w5] [.int (I (tvv f l t k i))] (x_vm g1) n Q := by
    intro hkc
    refine s111_237 ?_
    refine s111_239 rfl ?_
    refine s111_240 ⟨by omega, by omega⟩ (fun h240 => ?_) (fun h240 => ?_)
    · refine s111_279 ?_
      exact fin hkc _ (by omega)
    · refine s111_243 rfl ?_
      refine s111_245 ⟨by omega, by omega⟩ (fun h245 => ?_) (fun h245 => ?_)
      · refine s111_279 ?_
        exact fin hkc _ (by omega)
      · refine s111_248 rfl ?_
        refine s111_249 (by first | assumption | rfl) (by first | assumption | (exact hpo _) | rfl | decide) (by first | assumption | decide | omega) ?_
        rw [e8]
        refine s111_252 ?_
        refine s111_254 ⟨by omega, by omega⟩ ⟨by omega, by omega⟩ (fun h254 => ?_) (fun h254 => ?_)
        · refine s111_275 ?_
          refine s111_276 ?_
          exact fin hkc _ (by omega)
        · refine s111_257 rfl ?_
          refine s111_258 ⟨by omega, by omega⟩ (fun h258 => ?_) (fun h258 => ?_)
          · refine s111_275 ?_
            refine s111_276 ?_
            exact fin hkc _ (by omega)
          · refine s111_261 rfl ?_
            refine s111_263 ?_
            refine s111_265 ⟨by omega, by omega⟩ ⟨by omega, by omega⟩ (fun h265 => ?_) (fun h265 => ?_)
            · refine s111_275 ?_
              refine s111_276 ?_
              exact fin hkc _ (by omega)
            · refine s111_268 rfl ?_
              refine s111_270 ?_
              refine s111_272 ⟨by omega, by omega⟩ ⟨by omega, by omega⟩ (fun h272 => ?_) (fun h272 => ?_)
              · refine s111_279 ?_
                exact fin hkc _ (by omega)
              · refine s111_275 ?_
                refine s111_276 ?_
                exact fin hkc _ (by omega)
  refine s111_186 rfl ?_
  refine s111_187 ?_
  refine s111_188 ⟨by omega, by omega⟩ ⟨by omega, by omega⟩ (fun h188 => ?_) (fun h188 => ?_)
  · exfalso; omega
  · refine s111_191 rfl ?_
    refine s111_192 (by first | assumption | rfl) (by first | assumption | (exact hpo _) | rfl | decide) (by first | assumption | decide | omega) ?_
    rw [e8]
    refine s111_195 rfl ?_
    refine s111_196 (by simp) ?_
    refine c95 hxt (by omega) ?_
    refine ⟨_, rfl, ?_⟩
    refine s111_199 ?_
    refine s111_201 rfl ?_
    refine s111_203 ⟨by omega, by omega⟩ (fun h203 => ?_) (fun h203 => ?_)
    · refine s111_337 rfl ?_
      refine s111_340 ?_
      exact ih i _ _ _ _ hW (by omega) (hJ.skip (hskip (by omega)).1 (hskip (by omega)).2)
    · refine s111_206 rfl ?_
      refine s111_207 (by first | assumption | rfl) (by first | assumption | (exact hpo _) | rfl | decide) (by first | assumption | decide | omega) ?_
      rw [e8]
      refine s111_210 ?_
      refine s111_212 ⟨by omega, by omega⟩ ⟨by omega, by omega⟩ (fun h212 => ?_) (fun h212 => ?_)
      · refine s111_230 rfl ?_
        refine s111_231 rfl ?_
        refine s111_232 rfl ?_
        refine s111_234 (by first | assumption | rfl) (by simp) ?_
        refine c108 hF1 hT1 hA (by omega) ⟨by omega, by omega⟩ ?_
        refine ⟨_, rfl, ?_⟩
        first
          | (have mid := mid (Decidable.of_not_not (fun z => by have := tg.2.1 z; omega))
             have e : tvv f l t k i = tlet f l i (x_tg t k) := if_pos ⟨by omega, by omega⟩
             rw [e] at mid
             exact mid)
          | (have mid := mid (Decidable.of_not_not (fun z => by have := tg.2.1 z; omega))
             have e : tvv f l t k i = tnum f l i (x_tg t k) := if_neg (fun z => by omega)
             rw [e] at mid
             exact mid)
      · refine s111_215 rfl ?_
        refine s111_216 ?_
        refine s111_217 ⟨by omega, by omega⟩ ⟨by omega, by omega⟩ (fun h217 => ?_) (fun h217 => ?_)
        · refine s111_230 rfl ?_
          refine s111_231 rfl ?_
          refine s111_232 rfl ?_
          refine s111_234 (by first | assumption | rfl) (by simp) ?_
          refine c108 hF1 hT1 hA (by omega) ⟨by omega, by omega⟩ ?_
          refine ⟨_, rfl, ?_⟩
          first
            | (have mid := mid (Decidable.of_not_not (fun z => by have := tg.2.1 z; omega))
               have e : tvv f l t k i = tlet f l i (x_tg t k) := if_pos ⟨by omega, by omega⟩
               rw [e] at mid
               exact mid)
            | (have mid := mid (Decidable.of_not_not (fun z => by have := tg.2.1 z; omega))
               have e : tvv f l t k i = tnum f l i (x_tg t k) := if_neg (fun z => by omega)
               rw [e] at mid
               exact mid)
        · refine s111_220 rfl ?_
          refine s111_221 rfl ?_
          refine s111_222 rfl ?_
          refine s111_224 (by first | assumption | rfl) (by simp) ?_
          refine c109 hF1 hT1 hA (by omega) ⟨by omega, by omega⟩ ?_
          refine ⟨_, rfl, ?_⟩
          refine s111_227 ?_
          first
            | (have mid := mid (Decidable.of_not_not (fun z => by have := tg.2.1 z; omega))
               have e : tvv f l t k i = tlet f l i (x_tg t k) := if_pos ⟨by omega, by omega⟩
               rw [e] at mid
               exact mid)
            | (have mid := mid (Decidable.of_not_not (fun z => by have := tg.2.1 z; omega))
               have e : tvv f l t k i = tnum f l i (x_tg t k) := if_neg (fun z => by omega)
               rw [e] at mid
               exact mid)
end MP
