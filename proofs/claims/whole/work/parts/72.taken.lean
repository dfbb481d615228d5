/-! 72.taken: the reference takes a message: early, and in turn. -/
section MT
variable {S : Nat × (Nat → Int32)} {μ : xM} {g : Nat → Nat → Int} {n : Nat} {Q : xQ} {y : yS} {N L T M R U : Int} {t m d a b c : Int}
theorem yI.rP (h : yI N L T M R U y) (hN : N < 1600) (hL : L ≤ 100000) : rP y := by
  obtain ⟨⟨a3, a4, a5, a35, a6, a65, a7, a8, a9, a10, a11⟩, ⟨b1, b2⟩, ⟨c1, c2, c3⟩, d1, d2⟩ := h
  exact ⟨by omega, by omega, c1, a6⟩
/-- the reference's turn, before it settles -/
def ymt (y : yS) (t a b c : Int) : yS := if t = 49 then ysend (yset y 3 (y.1 3 + 1)) 48 a 0 else if t = 50 then yresend (yset y 3 (y.1 3 + 1)) a b else if t = 52 then (if y.1 3 + 1 < a then yset (yset y 3 (y.1 3 + 1)) 3 a else yset y 3 (y.1 3 + 1)) else if t = 53 then ylogout (yset y 3 (y.1 3 + 1)) else if t = 68 ∨ t = 70 ∨ t = 71 then yorder (yset (yset y 3 (y.1 3 + 1)) 8 ((yset y 3 (y.1 3 + 1)).1 8 + 1)) t a b c else yset y 3 (y.1 3 + 1)
theorem k119t (hC : rC g y) (hH : rH g t m d a b c) (hI : yI N L T M R U y) (hN : N ≤ 1590) (hL : L ≤ 2000) (hM : M ≤ 1000) (hU : U ≤ 511) (h6 : y.1 6 ≠ 0) (ht : zpeer t) (ha : 0 ≤ a ∧ a ≤ 999999) (hb : 0 ≤ b ∧ b ≤ 999999) (hc : 0 ≤ c ∧ c ≤ 999999)
    (h : ∀ g', rC g' (ymt y t a b c) → rF g g' → Q (.inl (some (.int (I 2)))) (x_vm g') n) : x_V S 119 230 [some (.ref 100)] [] (x_vm g) n Q := by
  have i3 := hI.1.1
  have i4 := hI.1.2.1
  have i8 := hI.1.2.2.2.2.2.2.2.1
  have iu := hI.2.2.2.2
  have hP : rP (yset y 3 (y.1 3 + 1)) := hI.rP (by omega) (by omega)
  have hLr : rL (yset y 3 (y.1 3 + 1)).2.2.1 := hI.2.2.1.2.1
  have hO : yO (yset y 3 (y.1 3 + 1)) := hI.2.2.2.1
  have hlen : (yset y 3 (y.1 3 + 1)).2.1.length ≤ 90000 := by have := hI.2.1.1; show y.2.1.length ≤ 90000; omega
  have e3 : g 100 20 = y.1 3 := hC.1.at.1
  have hC1 : rC (x_uf g 100 20 (y.1 3 + 1)) (yset y 3 (y.1 3 + 1)) := rC.set (j := 3) (by omega) (by omega) (by omega) hC
  have hF1 : rF g (x_uf g 100 20 (y.1 3 + 1)) := rF.u (by omega)
  have hH1 := hH.f hF1
  have k3 : x_uf g 100 20 (y.1 3 + 1) 100 20 = y.1 3 + 1 := x_uf_eq _ _ _ _
  have h61 : (yset y 3 (y.1 3 + 1)).1 6 ≠ 0 := h6
  have e41 : (yset y 3 (y.1 3 + 1)).1 4 = y.1 4 := rfl
  have e81 : (yset y 3 (y.1 3 + 1)).1 8 = y.1 8 := rfl
  have hu1 : (yset y 3 (y.1 3 + 1)).2.2.2.2.length < 512 := by show y.2.2.2.2.length < 512; omega
  unfold ymt at h
  refine s119_230 rfl ?_
  refine s119_231 rfl ?_
  refine s119_232 (by first | assumption | rfl) (by first | assumption | (exact hpo _) | rfl | decide) (by first | assumption | decide | omega) ?_
  rw [e3]
  refine s119_235 ?_
  refine s119_236 ?_
  refine s119_237 (by first | assumption | rfl) (by first | assumption | (exact hpo _) | rfl | decide) (by first | assumption | decide | omega) ?_
  generalize x_uf g 100 20 (y.1 3 + 1) = g1 at hC1 hF1 hH1 k3 ⊢
  generalize yset y 3 (y.1 3 + 1) = y1 at hC1 hP hLr hO hlen h61 e41 e81 hu1 h
  by_cases hq : t = 52
  · rw [if_neg (show ¬ t = 49 by omega), if_neg (show ¬ t = 50 by omega), if_pos hq] at h
    have hC2 : rC (x_uf g1 100 20 a) (yset y1 3 a) := rC.set (j := 3) (by omega) (by omega) (by omega) hC1
    have hF2 : rF g1 (x_uf g1 100 20 a) := rF.u (by omega)
    have hH2 := hH1.f hF2
    refine s119_240 rfl ?_
    refine s119_241 (by first | assumption | rfl) (by first | assumption | (exact hpo _) | rfl | decide) (by first | assumption | decide | omega) ?_
    first | rw [hH3.1] | rw [hH2.1] | rw [hH1.1]
    refine s119_244 ?_
    refine s119_246 ⟨by omega, by omega⟩ ⟨by omega, by omega⟩ (fun h246 => ?_) (fun h246 => ?_)
    · refine s119_262 rfl ?_
      refine s119_263 (by first | assumption | rfl) (by first | assumption | (exact hpo _) | rfl | decide) (by first | assumption | decide | omega) ?_
      first | rw [hH3.1] | rw [hH2.1] | rw [hH1.1]
      refine s119_266 ?_
      refine s119_268 ⟨by omega, by omega⟩ ⟨by omega, by omega⟩ (fun h268 => ?_) (fun h268 => ?_)
      · refine s119_283 rfl ?_
        refine s119_284 (by first | assumption | rfl) (by first | assumption | (exact hpo _) | rfl | decide) (by first | assumption | decide | omega) ?_
        first | rw [hH3.1] | rw [hH2.1] | rw [hH1.1]
        refine s119_287 ?_
        refine s119_289 ⟨by omega, by omega⟩ ⟨by omega, by omega⟩ (fun h289 => ?_) (fun h289 => ?_)
        · refine s119_311 rfl ?_
          refine s119_312 (by first | assumption | rfl) (by first | assumption | (exact hpo _) | rfl | decide) (by first | assumption | decide | omega) ?_
          first | rw [hH3.1] | rw [hH2.1] | rw [hH1.1]
          refine s119_315 ?_
          refine s119_317 ⟨by omega, by omega⟩ ⟨by omega, by omega⟩ (fun h317 => ?_) (fun h317 => ?_)
          · refine s119_324 rfl ?_
            refine s119_325 (by first | assumption | rfl) (by first | assumption | (exact hpo _) | rfl | decide) (by first | assumption | decide | omega) ?_
            first | rw [hH3.1] | rw [hH2.1] | rw [hH1.1]
            refine s119_328 ?_
            refine s119_330 ⟨by omega, by omega⟩ ⟨by omega, by omega⟩ (fun h330 => ?_) (fun h330 => ?_)
            · exfalso; omega
            · refine s119_333 rfl ?_
              refine s119_334 (by first | assumption | rfl) (by first | assumption | (exact hpo _) | rfl | decide) (by first | assumption | decide | omega) ?_
              first | rw [hH3.1] | rw [hH2.1] | rw [hH1.1]
              refine s119_337 ?_
              refine s119_339 ⟨by omega, by omega⟩ ⟨by omega, by omega⟩ (fun h339 => ?_) (fun h339 => ?_)
              · exfalso; omega
              · refine s119_342 rfl ?_
                refine s119_343 (by first | assumption | rfl) (by first | assumption | (exact hpo _) | rfl | decide) (by first | assumption | decide | omega) ?_
                first | rw [hH3.1] | rw [hH2.1] | rw [hH1.1]
                refine s119_346 ?_
                refine s119_348 ⟨by omega, by omega⟩ ⟨by omega, by omega⟩ (fun h348 => ?_) (fun h348 => ?_)
                · refine s119_355 ?_
                  refine s119_356 (st := []) ?_
                  first
                    | (exfalso; omega)
                    | (rw [if_neg (show ¬ y.1 3 + 1 < a by omega)] at h; exact h _ hC1 hF1)
                    | (rw [if_pos (show y.1 3 + 1 < a by omega)] at h; exact h _ hC2 (hF1.tr hF2))
                · exfalso; omega
          · exfalso; omega
        · refine s119_292 rfl ?_
          refine s119_293 (by first | assumption | rfl) (by first | assumption | (exact hpo _) | rfl | decide) (by first | assumption | decide | omega) ?_
          first | rw [hH3.2.2.2.1] | rw [hH2.2.2.2.1] | rw [hH1.2.2.2.1]
          refine s119_296 rfl ?_
          refine s119_297 (by first | assumption | rfl) (by first | assumption | (exact hpo _) | rfl | decide) (by first | assumption | decide | omega) ?_
          rw [k3]
          refine s119_300 ⟨by omega, by omega⟩ ⟨by omega, by omega⟩ (fun h300 => ?_) (fun h300 => ?_)
          · refine s119_311 rfl ?_
            refine s119_312 (by first | assumption | rfl) (by first | assumption | (exact hpo _) | rfl | decide) (by first | assumption | decide | omega) ?_
            first | rw [hH3.1] | rw [hH2.1] | rw [hH1.1]
            refine s119_315 ?_
            refine s119_317 ⟨by omega, by omega⟩ ⟨by omega, by omega⟩ (fun h317 => ?_) (fun h317 => ?_)
            · refine s119_324 rfl ?_
              refine s119_325 (by first | assumption | rfl) (by first | assumption | (exact hpo _) | rfl | decide) (by first | assumption | decide | omega) ?_
              first | rw [hH3.1] | rw [hH2.1] | rw [hH1.1]
              refine s119_328 ?_
              refine s119_330 ⟨by omega, by omega⟩ ⟨by omega, by omega⟩ (fun h330 => ?_) (fun h330 => ?_)
              · exfalso; omega
              · refine s119_333 rfl ?_
                refine s119_334 (by first | assumption | rfl) (by first | assumption | (exact hpo _) | rfl | decide) (by first | assumption | decide | omega) ?_
                first | rw [hH3.1] | rw [hH2.1] | rw [hH1.1]
                refine s119_337 ?_
                refine s119_339 ⟨by omega, by omega⟩ ⟨by omega, by omega⟩ (fun h339 => ?_) (fun h339 => ?_)
                · exfalso; omega
                · refine s119_342 rfl ?_
                  refine s119_343 (by first | assumption | rfl) (by first | assumption | (exact hpo _) | rfl | decide) (by first | assumption | decide | omega) ?_
                  first | rw [hH3.1] | rw [hH2.1] | rw [hH1.1]
                  refine s119_346 ?_
                  refine s119_348 ⟨by omega, by omega⟩ ⟨by omega, by omega⟩ (fun h348 => ?_) (fun h348 => ?_)
                  · refine s119_355 ?_
                    refine s119_356 (st := []) ?_
                    first
                      | (exfalso; omega)
                      | (rw [if_neg (show ¬ y.1 3 + 1 < a by omega)] at h; exact h _ hC1 hF1)
                      | (rw [if_pos (show y.1 3 + 1 < a by omega)] at h; exact h _ hC2 (hF1.tr hF2))
                  · exfalso; omega
            · exfalso; omega
          · refine s119_303 rfl ?_
            refine s119_304 rfl ?_
            refine s119_305 (by first | assumption | rfl) (by first | assumption | (exact hpo _) | rfl | decide) (by first | assumption | decide | omega) ?_
            first | rw [hH3.2.2.2.1] | rw [hH2.2.2.2.1] | rw [hH1.2.2.2.1]
            refine s119_308 (by first | assumption | rfl) (by first | assumption | (exact hpo _) | rfl | decide) (by first | assumption | decide | omega) ?_
            refine s119_311 rfl ?_
            refine s119_312 (by first | assumption | rfl) (by first | assumption | (exact hpo _) | rfl | decide) (by first | assumption | decide | omega) ?_
            first | rw [hH3.1] | rw [hH2.1] | rw [hH1.1]
            refine s119_315 ?_
            refine s119_317 ⟨by omega, by omega⟩ ⟨by omega, by omega⟩ (fun h317 => ?_) (fun h317 => ?_)
            · refine s119_324 rfl ?_
              refine s119_325 (by first | assumption | rfl) (by first | assumption | (exact hpo _) | rfl | decide) (by first | assumption | decide | omega) ?_
              first | rw [hH3.1] | rw [hH2.1] | rw [hH1.1]
              refine s119_328 ?_
              refine s119_330 ⟨by omega, by omega⟩ ⟨by omega, by omega⟩ (fun h330 => ?_) (fun h330 => ?_)
              · exfalso; omega
              · refine s119_333 rfl ?_
                refine s119_334 (by first | assumption | rfl) (by first | assumption | (exact hpo _) | rfl | decide) (by first | assumption | decide | omega) ?_
                first | rw [hH3.1] | rw [hH2.1] | rw [hH1.1]
                refine s119_337 ?_
                refine s119_339 ⟨by omega, by omega⟩ ⟨by omega, by omega⟩ (fun h339 => ?_) (fun h339 => ?_)
                · exfalso; omega
                · refine s119_342 rfl ?_
                  refine s119_343 (by first | assumption | rfl) (by first | assumption | (exact hpo _) | rfl | decide) (by first | assumption | decide | omega) ?_
                  first | rw [hH3.1] | rw [hH2.1] | rw [hH1.1]
                  refine s119_346 ?_
                  refine s119_348 ⟨by omega, by omega⟩ ⟨by omega, by omega⟩ (fun h348 => ?_) (fun h348 => ?_)
                  · refine s119_355 ?_
                    refine s119_356 (st := []) ?_
                    first
                      | (exfalso; omega)
                      | (rw [if_neg (show ¬ y.1 3 + 1 < a by omega)] at h; exact h _ hC1 hF1)
                      | (rw [if_pos (show y.1 3 + 1 < a by omega)] at h; exact h _ hC2 (hF1.tr hF2))
                  · exfalso; omega
            · exfalso; omega
      · exfalso; omega
    · exfalso; omega
  rcases (show t = 49 ∨ t = 50 ∨ t = 53 ∨ (t = 68 ∨ t = 70 ∨ t = 71) ∨ (t = 48 ∨ t = 65) by omega) with hq | hq | hq | hq | hq
  · rw [if_pos hq] at h
    refine s119_240 rfl ?_
    refine s119_241 (by first | assumption | rfl) (by first | assumption | (exact hpo _) | rfl | decide) (by first | assumption | decide | omega) ?_
    first | rw [hH3.1] | rw [hH2.1] | rw [hH1.1]
    refine s119_244 ?_
    refine s119_246 ⟨by omega, by omega⟩ ⟨by omega, by omega⟩ (fun h246 => ?_) (fun h246 => ?_)
    · refine s119_262 rfl ?_
      refine s119_263 (by first | assumption | rfl) (by first | assumption | (exact hpo _) | rfl | decide) (by first | assumption | decide | omega) ?_
      first | rw [hH3.1] | rw [hH2.1] | rw [hH1.1]
      refine s119_266 ?_
      refine s119_268 ⟨by omega, by omega⟩ ⟨by omega, by omega⟩ (fun h268 => ?_) (fun h268 => ?_)
      · refine s119_283 rfl ?_
        refine s119_284 (by first | assumption | rfl) (by first | assumption | (exact hpo _) | rfl | decide) (by first | assumption | decide | omega) ?_
        first | rw [hH3.1] | rw [hH2.1] | rw [hH1.1]
        refine s119_287 ?_
        refine s119_289 ⟨by omega, by omega⟩ ⟨by omega, by omega⟩ (fun h289 => ?_) (fun h289 => ?_)
        · refine s119_311 rfl ?_
          refine s119_312 (by first | assumption | rfl) (by first | assumption | (exact hpo _) | rfl | decide) (by first | assumption | decide | omega) ?_
          first | rw [hH3.1] | rw [hH2.1] | rw [hH1.1]
          refine s119_315 ?_
          refine s119_317 ⟨by omega, by omega⟩ ⟨by omega, by omega⟩ (fun h317 => ?_) (fun h317 => ?_)
          · refine s119_324 rfl ?_
            refine s119_325 (by first | assumption | rfl) (by first | assumption | (exact hpo _) | rfl | decide) (by first | assumption | decide | omega) ?_
            first | rw [hH3.1] | rw [hH2.1] | rw [hH1.1]
            refine s119_328 ?_
            refine s119_330 ⟨by omega, by omega⟩ ⟨by omega, by omega⟩ (fun h330 => ?_) (fun h330 => ?_)
            · exfalso; omega
            · refine s119_333 rfl ?_
              refine s119_334 (by first | assumption | rfl) (by first | assumption | (exact hpo _) | rfl | decide) (by first | assumption | decide | omega) ?_
              first | rw [hH3.1] | rw [hH2.1] | rw [hH1.1]
              refine s119_337 ?_
              refine s119_339 ⟨by omega, by omega⟩ ⟨by omega, by omega⟩ (fun h339 => ?_) (fun h339 => ?_)
              · exfalso; omega
              · refine s119_342 rfl ?_
                refine s119_343 (by first | assumption | rfl) (by first | assumption | (exact hpo _) | rfl | decide) (by first | assumption | decide | omega) ?_
                first | rw [hH3.1] | rw [hH2.1] | rw [hH1.1]
                refine s119_346 ?_
                refine s119_348 ⟨by omega, by omega⟩ ⟨by omega, by omega⟩ (fun h348 => ?_) (fun h348 => ?_)
                · refine s119_355 ?_
                  refine s119_356 (st := []) ?_
                  first
                    | (exfalso; omega)
                    | exact h _ hC2 (hF1.tr hF2)
                · exfalso; omega
          · exfalso; omega
        · exfalso; omega
      · exfalso; omega
    · refine s119_249 rfl ?_
      refine s119_250 ?_
      refine s119_252 rfl ?_
      refine s119_253 (by first | assumption | rfl) (by first | assumption | (exact hpo _) | rfl | decide) (by first | assumption | decide | omega) ?_
      first | rw [hH3.2.2.2.1] | rw [hH2.2.2.2.1] | rw [hH1.2.2.2.1]
      refine s119_256 ?_
      refine s119_257 ?_
      refine s119_258 ?_
      refine s119_259 (by first | assumption | rfl) (by simp) ?_
      refine c98p hC1 hP ⟨by omega, by omega⟩ (by omega) (fun _ => rok_s (by decide) (by decide) ⟨by omega, by omega⟩ ⟨by omega, by omega⟩ (fun _ => by omega) ⟨by omega, by omega⟩) (fun g2 hC2 hF2 => ?_)
      refine ⟨_, rfl, ?_⟩
      rw [rsend_in (by decide) h61] at hC2
      have hH2 := hH1.f hF2
      refine s119_262 rfl ?_
      refine s119_263 (by first | assumption | rfl) (by first | assumption | (exact hpo _) | rfl | decide) (by first | assumption | decide | omega) ?_
      first | rw [hH3.1] | rw [hH2.1] | rw [hH1.1]
      refine s119_266 ?_
      refine s119_268 ⟨by omega, by omega⟩ ⟨by omega, by omega⟩ (fun h268 => ?_) (fun h268 => ?_)
      · refine s119_283 rfl ?_
        refine s119_284 (by first | assumption | rfl) (by first | assumption | (exact hpo _) | rfl | decide) (by first | assumption | decide | omega) ?_
        first | rw [hH3.1] | rw [hH2.1] | rw [hH1.1]
        refine s119_287 ?_
        refine s119_289 ⟨by omega, by omega⟩ ⟨by omega, by omega⟩ (fun h289 => ?_) (fun h289 => ?_)
        · refine s119_311 rfl ?_
          refine s119_312 (by first | assumption | rfl) (by first | assumption | (exact hpo _) | rfl | decide) (by first | assumption | decide | omega) ?_
          first | rw [hH3.1] | rw [hH2.1] | rw [hH1.1]
          refine s119_315 ?_
          refine s119_317 ⟨by omega, by omega⟩ ⟨by omega, by omega⟩ (fun h317 => ?_) (fun h317 => ?_)
          · refine s119_324 rfl ?_
            refine s119_325 (by first | assumption | rfl) (by first | assumption | (exact hpo _) | rfl | decide) (by first | assumption | decide | omega) ?_
            first | rw [hH3.1] | rw [hH2.1] | rw [hH1.1]
            refine s119_328 ?_
            refine s119_330 ⟨by omega, by omega⟩ ⟨by omega, by omega⟩ (fun h330 => ?_) (fun h330 => ?_)
            · exfalso; omega
            · refine s119_333 rfl ?_
              refine s119_334 (by first | assumption | rfl) (by first | assumption | (exact hpo _) | rfl | decide) (by first | assumption | decide | omega) ?_
              first | rw [hH3.1] | rw [hH2.1] | rw [hH1.1]
              refine s119_337 ?_
              refine s119_339 ⟨by omega, by omega⟩ ⟨by omega, by omega⟩ (fun h339 => ?_) (fun h339 => ?_)
              · exfalso; omega
              · refine s119_342 rfl ?_
                refine s119_343 (by first | assumption | rfl) (by first | assumption | (exact hpo _) | rfl | decide) (by first | assumption | decide | omega) ?_
                first | rw [hH3.1] | rw [hH2.1] | rw [hH1.1]
                refine s119_346 ?_
                refine s119_348 ⟨by omega, by omega⟩ ⟨by omega, by omega⟩ (fun h348 => ?_) (fun h348 => ?_)
                · refine s119_355 ?_
                  refine s119_356 (st := []) ?_
                  first
                    | (exfalso; omega)
                    | exact h _ hC2 (hF1.tr hF2)
                · exfalso; omega
          · exfalso; omega
        · exfalso; omega
      · exfalso; omega
  · rw [if_neg (by omega), if_pos hq] at h
    refine s119_240 rfl ?_
    refine s119_241 (by first | assumption | rfl) (by first | assumption | (exact hpo _) | rfl | decide) (by first | assumption | decide | omega) ?_
    first | rw [hH3.1] | rw [hH2.1] | rw [hH1.1]
    refine s119_244 ?_
    refine s119_246 ⟨by omega, by omega⟩ ⟨by omega, by omega⟩ (fun h246 => ?_) (fun h246 => ?_)
    · refine s119_262 rfl ?_
      refine s119_263 (by first | assumption | rfl) (by first | assumption | (exact hpo _) | rfl | decide) (by first | assumption | decide | omega) ?_
      first | rw [hH3.1] | rw [hH2.1] | rw [hH1.1]
      refine s119_266 ?_
      refine s119_268 ⟨by omega, by omega⟩ ⟨by omega, by omega⟩ (fun h268 => ?_) (fun h268 => ?_)
      · refine s119_283 rfl ?_
        refine s119_284 (by first | assumption | rfl) (by first | assumption | (exact hpo _) | rfl | decide) (by first | assumption | decide | omega) ?_
        first | rw [hH3.1] | rw [hH2.1] | rw [hH1.1]
        refine s119_287 ?_
        refine s119_289 ⟨by omega, by omega⟩ ⟨by omega, by omega⟩ (fun h289 => ?_) (fun h289 => ?_)
        · refine s119_311 rfl ?_
          refine s119_312 (by first | assumption | rfl) (by first | assumption | (exact hpo _) | rfl | decide) (by first | assumption | decide | omega) ?_
          first | rw [hH3.1] | rw [hH2.1] | rw [hH1.1]
          refine s119_315 ?_
          refine s119_317 ⟨by omega, by omega⟩ ⟨by omega, by omega⟩ (fun h317 => ?_) (fun h317 => ?_)
          · refine s119_324 rfl ?_
            refine s119_325 (by first | assumption | rfl) (by first | assumption | (exact hpo _) | rfl | decide) (by first | assumption | decide | omega) ?_
            first | rw [hH3.1] | rw [hH2.1] | rw [hH1.1]
            refine s119_328 ?_
            refine s119_330 ⟨by omega, by omega⟩ ⟨by omega, by omega⟩ (fun h330 => ?_) (fun h330 => ?_)
            · exfalso; omega
            · refine s119_333 rfl ?_
              refine s119_334 (by first | assumption | rfl) (by first | assumption | (exact hpo _) | rfl | decide) (by first | assumption | decide | omega) ?_
              first | rw [hH3.1] | rw [hH2.1] | rw [hH1.1]
              refine s119_337 ?_
              refine s119_339 ⟨by omega, by omega⟩ ⟨by omega, by omega⟩ (fun h339 => ?_) (fun h339 => ?_)
              · exfalso; omega
              · refine s119_342 rfl ?_
                refine s119_343 (by first | assumption | rfl) (by first | assumption | (exact hpo _) | rfl | decide) (by first | assumption | decide | omega) ?_
                first | rw [hH3.1] | rw [hH2.1] | rw [hH1.1]
                refine s119_346 ?_
                refine s119_348 ⟨by omega, by omega⟩ ⟨by omega, by omega⟩ (fun h348 => ?_) (fun h348 => ?_)
                · refine s119_355 ?_
                  refine s119_356 (st := []) ?_
                  first
                    | (exfalso; omega)
                    | exact h _ hC2 (hF1.tr hF2)
                · exfalso; omega
          · exfalso; omega
        · exfalso; omega
      · refine s119_271 rfl ?_
        refine s119_272 rfl ?_
        refine s119_273 (by first | assumption | rfl) (by first | assumption | (exact hpo _) | rfl | decide) (by first | assumption | decide | omega) ?_
        first | rw [hH3.2.2.2.1] | rw [hH2.2.2.2.1] | rw [hH1.2.2.2.1]
        refine s119_276 rfl ?_
        refine s119_277 (by first | assumption | rfl) (by first | assumption | (exact hpo _) | rfl | decide) (by first | assumption | decide | omega) ?_
        first | rw [hH3.2.2.2.2.1] | rw [hH2.2.2.2.2.1] | rw [hH1.2.2.2.2.1]
        refine s119_280 (by first | assumption | rfl) (by simp) ?_
        refine c101 hC1 hP hLr hlen ⟨by omega, by omega⟩ ⟨by omega, by omega⟩ (fun g2 hC2 hF2 => ?_)
        refine ⟨_, rfl, ?_⟩
        have hH2 := hH1.f hF2
        refine s119_283 rfl ?_
        refine s119_284 (by first | assumption | rfl) (by first | assumption | (exact hpo _) | rfl | decide) (by first | assumption | decide | omega) ?_
        first | rw [hH3.1] | rw [hH2.1] | rw [hH1.1]
        refine s119_287 ?_
        refine s119_289 ⟨by omega, by omega⟩ ⟨by omega, by omega⟩ (fun h289 => ?_) (fun h289 => ?_)
        · refine s119_311 rfl ?_
          refine s119_312 (by first | assumption | rfl) (by first | assumption | (exact hpo _) | rfl | decide) (by first | assumption | decide | omega) ?_
          first | rw [hH3.1] | rw [hH2.1] | rw [hH1.1]
          refine s119_315 ?_
          refine s119_317 ⟨by omega, by omega⟩ ⟨by omega, by omega⟩ (fun h317 => ?_) (fun h317 => ?_)
          · refine s119_324 rfl ?_
            refine s119_325 (by first | assumption | rfl) (by first | assumption | (exact hpo _) | rfl | decide) (by first | assumption | decide | omega) ?_
            first | rw [hH3.1] | rw [hH2.1] | rw [hH1.1]
            refine s119_328 ?_
            refine s119_330 ⟨by omega, by omega⟩ ⟨by omega, by omega⟩ (fun h330 => ?_) (fun h330 => ?_)
            · exfalso; omega
            · refine s119_333 rfl ?_
              refine s119_334 (by first | assumption | rfl) (by first | assumption | (exact hpo _) | rfl | decide) (by first | assumption | decide | omega) ?_
              first | rw [hH3.1] | rw [hH2.1] | rw [hH1.1]
              refine s119_337 ?_
              refine s119_339 ⟨by omega, by omega⟩ ⟨by omega, by omega⟩ (fun h339 => ?_) (fun h339 => ?_)
              · exfalso; omega
              · refine s119_342 rfl ?_
                refine s119_343 (by first | assumption | rfl) (by first | assumption | (exact hpo _) | rfl | decide) (by first | assumption | decide | omega) ?_
                first | rw [hH3.1] | rw [hH2.1] | rw [hH1.1]
                refine s119_346 ?_
                refine s119_348 ⟨by omega, by omega⟩ ⟨by omega, by omega⟩ (fun h348 => ?_) (fun h348 => ?_)
                · refine s119_355 ?_
                  refine s119_356 (st := []) ?_
                  first
                    | (exfalso; omega)
                    | exact h _ hC2 (hF1.tr hF2)
                · exfalso; omega
          · exfalso; omega
        · exfalso; omega
    · exfalso; omega
  · rw [if_neg (show ¬ t = 49 by omega), if_neg (show ¬ t = 50 by omega), if_neg (show ¬ t = 52 by omega), if_pos hq] at h
    refine s119_240 rfl ?_
    refine s119_241 (by first | assumption | rfl) (by first | assumption | (exact hpo _) | rfl | decide) (by first | assumption | decide | omega) ?_
    first | rw [hH3.1] | rw [hH2.1] | rw [hH1.1]
    refine s119_244 ?_
    refine s119_246 ⟨by omega, by omega⟩ ⟨by omega, by omega⟩ (fun h246 => ?_) (fun h246 => ?_)
    · refine s119_262 rfl ?_
      refine s119_263 (by first | assumption | rfl) (by first | assumption | (exact hpo _) | rfl | decide) (by first | assumption | decide | omega) ?_
      first | rw [hH3.1] | rw [hH2.1] | rw [hH1.1]
      refine s119_266 ?_
      refine s119_268 ⟨by omega, by omega⟩ ⟨by omega, by omega⟩ (fun h268 => ?_) (fun h268 => ?_)
      · refine s119_283 rfl ?_
        refine s119_284 (by first | assumption | rfl) (by first | assumption | (exact hpo _) | rfl | decide) (by first | assumption | decide | omega) ?_
        first | rw [hH3.1] | rw [hH2.1] | rw [hH1.1]
        refine s119_287 ?_
        refine s119_289 ⟨by omega, by omega⟩ ⟨by omega, by omega⟩ (fun h289 => ?_) (fun h289 => ?_)
        · refine s119_311 rfl ?_
          refine s119_312 (by first | assumption | rfl) (by first | assumption | (exact hpo _) | rfl | decide) (by first | assumption | decide | omega) ?_
          first | rw [hH3.1] | rw [hH2.1] | rw [hH1.1]
          refine s119_315 ?_
          refine s119_317 ⟨by omega, by omega⟩ ⟨by omega, by omega⟩ (fun h317 => ?_) (fun h317 => ?_)
          · refine s119_324 rfl ?_
            refine s119_325 (by first | assumption | rfl) (by first | assumption | (exact hpo _) | rfl | decide) (by first | assumption | decide | omega) ?_
            first | rw [hH3.1] | rw [hH2.1] | rw [hH1.1]
            refine s119_328 ?_
            refine s119_330 ⟨by omega, by omega⟩ ⟨by omega, by omega⟩ (fun h330 => ?_) (fun h330 => ?_)
            · exfalso; omega
            · refine s119_333 rfl ?_
              refine s119_334 (by first | assumption | rfl) (by first | assumption | (exact hpo _) | rfl | decide) (by first | assumption | decide | omega) ?_
              first | rw [hH3.1] | rw [hH2.1] | rw [hH1.1]
              refine s119_337 ?_
              refine s119_339 ⟨by omega, by omega⟩ ⟨by omega, by omega⟩ (fun h339 => ?_) (fun h339 => ?_)
              · exfalso; omega
              · refine s119_342 rfl ?_
                refine s119_343 (by first | assumption | rfl) (by first | assumption | (exact hpo _) | rfl | decide) (by first | assumption | decide | omega) ?_
                first | rw [hH3.1] | rw [hH2.1] | rw [hH1.1]
                refine s119_346 ?_
                refine s119_348 ⟨by omega, by omega⟩ ⟨by omega, by omega⟩ (fun h348 => ?_) (fun h348 => ?_)
                · refine s119_355 ?_
                  refine s119_356 (st := []) ?_
                  first
                    | (exfalso; omega)
                    | exact h _ hC2 (hF1.tr hF2)
                · exfalso; omega
          · refine s119_320 rfl ?_
            refine s119_321 (by first | assumption | rfl) (by simp) ?_
            refine c99 hC1 hP (fun g2 hC2 hF2 => ?_)
            refine ⟨_, rfl, ?_⟩
            rw [if_neg h61] at hC2
            have hH2 := hH1.f hF2
            refine s119_324 rfl ?_
            refine s119_325 (by first | assumption | rfl) (by first | assumption | (exact hpo _) | rfl | decide) (by first | assumption | decide | omega) ?_
            first | rw [hH3.1] | rw [hH2.1] | rw [hH1.1]
            refine s119_328 ?_
            refine s119_330 ⟨by omega, by omega⟩ ⟨by omega, by omega⟩ (fun h330 => ?_) (fun h330 => ?_)
            · exfalso; omega
            · refine s119_333 rfl ?_
              refine s119_334 (by first | assumption | rfl) (by first | assumption | (exact hpo _) | rfl | decide) (by first | assumption | decide | omega) ?_
              first | rw [hH3.1] | rw [hH2.1] | rw [hH1.1]
              refine s119_337 ?_
              refine s119_339 ⟨by omega, by omega⟩ ⟨by omega, by omega⟩ (fun h339 => ?_) (fun h339 => ?_)
              · exfalso; omega
              · refine s119_342 rfl ?_
                refine s119_343 (by first | assumption | rfl) (by first | assumption | (exact hpo _) | rfl | decide) (by first | assumption | decide | omega) ?_
                first | rw [hH3.1] | rw [hH2.1] | rw [hH1.1]
                refine s119_346 ?_
                refine s119_348 ⟨by omega, by omega⟩ ⟨by omega, by omega⟩ (fun h348 => ?_) (fun h348 => ?_)
                · refine s119_355 ?_
                  refine s119_356 (st := []) ?_
                  first
                    | (exfalso; omega)
                    | exact h _ hC2 (hF1.tr hF2)
                · exfalso; omega
        · exfalso; omega
      · exfalso; omega
    · exfalso; omega
  · rw [if_neg (show ¬ t = 49 by omega), if_neg (show ¬ t = 50 by omega), if_neg (show ¬ t = 52 by omega), if_neg (show ¬ t = 53 by omega), if_pos hq] at h
    refine s119_240 rfl ?_
    refine s119_241 (by first | assumption | rfl) (by first | assumption | (exact hpo _) | rfl | decide) (by first | assumption | decide | omega) ?_
    first | rw [hH3.1] | rw [hH2.1] | rw [hH1.1]
    refine s119_244 ?_
    refine s119_246 ⟨by omega, by omega⟩ ⟨by omega, by omega⟩ (fun h246 => ?_) (fun h246 => ?_)
    · refine s119_262 rfl ?_
      refine s119_263 (by first | assumption | rfl) (by first | assumption | (exact hpo _) | rfl | decide) (by first | assumption | decide | omega) ?_
      first | rw [hH3.1] | rw [hH2.1] | rw [hH1.1]
      refine s119_266 ?_
      refine s119_268 ⟨by omega, by omega⟩ ⟨by omega, by omega⟩ (fun h268 => ?_) (fun h268 => ?_)
      · refine s119_283 rfl ?_
        refine s119_284 (by first | assumption | rfl) (by first | assumption | (exact hpo _) | rfl | decide) (by first | assumption | decide | omega) ?_
        first | rw [hH3.1] | rw [hH2.1] | rw [hH1.1]
        refine s119_287 ?_
        refine s119_289 ⟨by omega, by omega⟩ ⟨by omega, by omega⟩ (fun h289 => ?_) (fun h289 => ?_)
        · refine s119_311 rfl ?_
          refine s119_312 (by first | assumption | rfl) (by first | assumption | (exact hpo _) | rfl | decide) (by first | assumption | decide | omega) ?_
          first | rw [hH3.1] | rw [hH2.1] | rw [hH1.1]
          refine s119_315 ?_
          refine s119_317 ⟨by omega, by omega⟩ ⟨by omega, by omega⟩ (fun h317 => ?_) (fun h317 => ?_)
          · refine s119_324 rfl ?_
            refine s119_325 (by first | assumption | rfl) (by first | assumption | (exact hpo _) | rfl | decide) (by first | assumption | decide | omega) ?_
            first | rw [hH3.1] | rw [hH2.1] | rw [hH1.1]
            refine s119_328 ?_
            refine s119_330 ⟨by omega, by omega⟩ ⟨by omega, by omega⟩ (fun h330 => ?_) (fun h330 => ?_)
            · refine s119_351 rfl ?_
              refine s119_352 (by first | assumption | rfl) (by simp) ?_
              refine c117 hC1 hP hO hu1 hH1 (by omega) ⟨by omega, by omega⟩ ⟨by omega, by omega⟩ ⟨by omega, by omega⟩ (fun _ => ⟨by omega, by omega⟩) ⟨by omega, by omega⟩ (fun g2 hC2 hF2 => ?_)
              refine ⟨_, rfl, ?_⟩
              refine s119_355 ?_
              refine s119_356 (st := []) ?_
              first
                | (exfalso; omega)
                | exact h _ hC2 (hF1.tr hF2)
            · refine s119_333 rfl ?_
              refine s119_334 (by first | assumption | rfl) (by first | assumption | (exact hpo _) | rfl | decide) (by first | assumption | decide | omega) ?_
              first | rw [hH3.1] | rw [hH2.1] | rw [hH1.1]
              refine s119_337 ?_
              refine s119_339 ⟨by omega, by omega⟩ ⟨by omega, by omega⟩ (fun h339 => ?_) (fun h339 => ?_)
              · refine s119_351 rfl ?_
                refine s119_352 (by first | assumption | rfl) (by simp) ?_
                refine c117 hC1 hP hO hu1 hH1 (by omega) ⟨by omega, by omega⟩ ⟨by omega, by omega⟩ ⟨by omega, by omega⟩ (fun _ => ⟨by omega, by omega⟩) ⟨by omega, by omega⟩ (fun g2 hC2 hF2 => ?_)
                refine ⟨_, rfl, ?_⟩
                refine s119_355 ?_
                refine s119_356 (st := []) ?_
                first
                  | (exfalso; omega)
                  | exact h _ hC2 (hF1.tr hF2)
              · refine s119_342 rfl ?_
                refine s119_343 (by first | assumption | rfl) (by first | assumption | (exact hpo _) | rfl | decide) (by first | assumption | decide | omega) ?_
                first | rw [hH3.1] | rw [hH2.1] | rw [hH1.1]
                refine s119_346 ?_
                refine s119_348 ⟨by omega, by omega⟩ ⟨by omega, by omega⟩ (fun h348 => ?_) (fun h348 => ?_)
                · refine s119_355 ?_
                  refine s119_356 (st := []) ?_
                  first
                    | (exfalso; omega)
                    | exact h _ hC2 (hF1.tr hF2)
                · refine s119_351 rfl ?_
                  refine s119_352 (by first | assumption | rfl) (by simp) ?_
                  refine c117 hC1 hP hO hu1 hH1 (by omega) ⟨by omega, by omega⟩ ⟨by omega, by omega⟩ ⟨by omega, by omega⟩ (fun _ => ⟨by omega, by omega⟩) ⟨by omega, by omega⟩ (fun g2 hC2 hF2 => ?_)
                  refine ⟨_, rfl, ?_⟩
                  refine s119_355 ?_
                  refine s119_356 (st := []) ?_
                  first
                    | (exfalso; omega)
                    | exact h _ hC2 (hF1.tr hF2)
          · exfalso; omega
        · exfalso; omega
      · exfalso; omega
    · exfalso; omega
  · rw [if_neg (show ¬ t = 49 by omega), if_neg (show ¬ t = 50 by omega), if_neg (show ¬ t = 52 by omega), if_neg (show ¬ t = 53 by omega), if_neg (show ¬ (t = 68 ∨ t = 70 ∨ t = 71) by omega)] at h
    refine s119_240 rfl ?_
    refine s119_241 (by first | assumption | rfl) (by first | assumption | (exact hpo _) | rfl | decide) (by first | assumption | decide | omega) ?_
    first | rw [hH3.1] | rw [hH2.1] | rw [hH1.1]
    refine s119_244 ?_
    refine s119_246 ⟨by omega, by omega⟩ ⟨by omega, by omega⟩ (fun h246 => ?_) (fun h246 => ?_)
    · refine s119_262 rfl ?_
      refine s119_263 (by first | assumption | rfl) (by first | assumption | (exact hpo _) | rfl | decide) (by first | assumption | decide | omega) ?_
      first | rw [hH3.1] | rw [hH2.1] | rw [hH1.1]
      refine s119_266 ?_
      refine s119_268 ⟨by omega, by omega⟩ ⟨by omega, by omega⟩ (fun h268 => ?_) (fun h268 => ?_)
      · refine s119_283 rfl ?_
        refine s119_284 (by first | assumption | rfl) (by first | assumption | (exact hpo _) | rfl | decide) (by first | assumption | decide | omega) ?_
        first | rw [hH3.1] | rw [hH2.1] | rw [hH1.1]
        refine s119_287 ?_
        refine s119_289 ⟨by omega, by omega⟩ ⟨by omega, by omega⟩ (fun h289 => ?_) (fun h289 => ?_)
        · refine s119_311 rfl ?_
          refine s119_312 (by first | assumption | rfl) (by first | assumption | (exact hpo _) | rfl | decide) (by first | assumption | decide | omega) ?_
          first | rw [hH3.1] | rw [hH2.1] | rw [hH1.1]
          refine s119_315 ?_
          refine s119_317 ⟨by omega, by omega⟩ ⟨by omega, by omega⟩ (fun h317 => ?_) (fun h317 => ?_)
          · refine s119_324 rfl ?_
            refine s119_325 (by first | assumption | rfl) (by first | assumption | (exact hpo _) | rfl | decide) (by first | assumption | decide | omega) ?_
            first | rw [hH3.1] | rw [hH2.1] | rw [hH1.1]
            refine s119_328 ?_
            refine s119_330 ⟨by omega, by omega⟩ ⟨by omega, by omega⟩ (fun h330 => ?_) (fun h330 => ?_)
            · exfalso; omega
            · refine s119_333 rfl ?_
              refine s119_334 (by first | assumption | rfl) (by first | assumption | (exact hpo _) | rfl | decide) (by first | assumption | decide | omega) ?_
              first | rw [hH3.1] | rw [hH2.1] | rw [hH1.1]
              refine s119_337 ?_
              refine s119_339 ⟨by omega, by omega⟩ ⟨by omega, by omega⟩ (fun h339 => ?_) (fun h339 => ?_)
              · exfalso; omega
              · refine s119_342 rfl ?_
                refine s119_343 (by first | assumption | rfl) (by first | assumption | (exact hpo _) | rfl | decide) (by first | assumption | decide | omega) ?_
                first | rw [hH3.1] | rw [hH2.1] | rw [hH1.1]
                refine s119_346 ?_
                refine s119_348 ⟨by omega, by omega⟩ ⟨by omega, by omega⟩ (fun h348 => ?_) (fun h348 => ?_)
                · refine s119_355 ?_
                  refine s119_356 (st := []) ?_
                  first
                    | (exfalso; omega)
                    | exact h _ hC1 hF1
                · exfalso; omega
          · exfalso; omega
        · exfalso; omega
      · exfalso; omega
    · exfalso; omega
theorem yearly1_6 (h6 : y.1 6 = 0 ∨ y.1 6 = 1) : (yearly1 y t a b).1 6 = 0 ∨ (yearly1 y t a b).1 6 = 1 := by
  unfold yearly1
  split
  · rw [yresend_c (by omega)]; exact h6
  · split
    · exact Or.inl rfl
    · exact h6
theorem yI.early1 (h : yI N L T M R U y) (hN : N ≤ 999999) (hR : 0 ≤ R) (ha : 0 ≤ a) : yI (N + 1) (L + 2 * R + 1) T M R U (yearly1 y t a b) := by
  unfold yearly1
  split
  · exact (h.resend hN ha).up (by omega) (by omega) (by omega) (by omega) (by omega) (by omega)
  · split
    · exact (h.logout hN).up (by omega) (by omega) (by omega) (by omega) (by omega) (by omega)
    · exact h.up (by omega) (by omega) (by omega) (by omega) (by omega) (by omega)
theorem yearly1_3 : (yearly1 y t a b).1 3 = y.1 3 := by
  unfold yearly1
  split
  · exact yresend_c (by omega)
  · split <;> rfl
theorem k119e (hC : rC g y) (hH : rH g t m d a b c) (hI : yI N L T M R U y) (hN : N ≤ 1590) (hL : L ≤ 2000) (hR : 0 ≤ R ∧ R ≤ 1000) (h6 : y.1 6 ≠ 0) (ht : zpeer t) (ha : 0 ≤ a ∧ a ≤ 999999) (hb : 0 ≤ b ∧ b ≤ 999999) (hm : m ≤ 999999) (h3 : y.1 3 < m)
    (h : ∀ g', rC g' (ytk4 (ytk3 (yearly1 y t a b)) m) → rF g g' → Q (.inl (some (.int (I 3)))) (x_vm g') n) : x_V S 119 143 [some (.ref 100)] [] (x_vm g) n Q := by
  have i3 := hI.1.1
  have i4 := hI.1.2.1
  have hP : rP y := hI.rP (by omega) (by omega)
  have hLr : rL y.2.2.1 := hI.2.2.1.2.1
  have hlen : y.2.1.length ≤ 90000 := by have := hI.2.1.1; omega
  have fin4 : ∀ (y2 : yS) (g2 : Nat → Nat → Int), rC g2 y2 → rF g g2 → (y2.1 6 = 0 ∨ y2.1 6 = 1) → (0 ≤ y2.1 5 ∧ y2.1 5 ≤ 999999) → ytk4 (ytk3 (yearly1 y t a b)) m = ytk4 y2 m → x_V S 119 195 [some (.ref 100)] [] (x_vm g2) n Q := by
    intro y2 g2 hC2 hF2 j6 j5 e
    have hH1 := hH.f hF2
    rw [e] at h
    unfold ytk4 at h
    have e6 : g2 100 19 = y2.1 6 := hC2.1.at.2.2.2.1
    have e5 : g2 100 26 = y2.1 5 := hC2.1.at.2.2.1
    have hs : ∀ v, rC (x_uf g2 100 26 v) (yset y2 5 v) := fun v => rC.set (j := 5) (by omega) (by omega) (by omega) hC2
    have hf : ∀ v, rF g (x_uf g2 100 26 v) := fun v => hF2.tr (rF.u (by omega))
    refine s119_195 rfl ?_
    refine s119_196 rfl ?_
    refine s119_197 (by first | assumption | rfl) (by first | assumption | (exact hpo _) | rfl | decide) (by first | assumption | decide | omega) ?_
    rw [e6]
    refine s119_200 ⟨by omega, by omega⟩ (fun h200 => ?_) (fun h200 => ?_)
    · refine s119_221 rfl ?_
      refine s119_222 (by first | assumption | rfl) (by first | assumption | (exact hpo _) | rfl | decide) (by first | assumption | decide | omega) ?_
      rw [e5]
      refine s119_225 (by first | assumption | rfl) (by first | assumption | (exact hpo _) | rfl | decide) (by first | assumption | decide | omega) ?_
      refine s119_228 ?_
      refine s119_229 (st := []) ?_
      first
        | (rw [if_neg (show ¬ (y2.1 6 ≠ 0 ∧ y2.1 5 < m) by omega)] at h; exact h _ (hs _) (hf _))
        | (rw [if_pos (show y2.1 6 ≠ 0 ∧ y2.1 5 < m by omega)] at h; exact h _ (hs _) (hf _))
    · refine s119_203 rfl ?_
      refine s119_204 (by first | assumption | rfl) (by first | assumption | (exact hpo _) | rfl | decide) (by first | assumption | decide | omega) ?_
      first | rw [hH3.2.1] | rw [hH2.2.1] | rw [hH1.2.1]
      refine s119_207 rfl ?_
      refine s119_208 (by first | assumption | rfl) (by first | assumption | (exact hpo _) | rfl | decide) (by first | assumption | decide | omega) ?_
      rw [e5]
      refine s119_211 ⟨by omega, by omega⟩ ⟨by omega, by omega⟩ (fun h211 => ?_) (fun h211 => ?_)
      · refine s119_221 rfl ?_
        refine s119_222 (by first | assumption | rfl) (by first | assumption | (exact hpo _) | rfl | decide) (by first | assumption | decide | omega) ?_
        rw [e5]
        refine s119_225 (by first | assumption | rfl) (by first | assumption | (exact hpo _) | rfl | decide) (by first | assumption | decide | omega) ?_
        refine s119_228 ?_
        refine s119_229 (st := []) ?_
        first
          | (rw [if_neg (show ¬ (y2.1 6 ≠ 0 ∧ y2.1 5 < m) by omega)] at h; exact h _ (hs _) (hf _))
          | (rw [if_pos (show y2.1 6 ≠ 0 ∧ y2.1 5 < m by omega)] at h; exact h _ (hs _) (hf _))
      · refine s119_214 rfl ?_
        refine s119_215 (by first | assumption | rfl) (by first | assumption | (exact hpo _) | rfl | decide) (by first | assumption | decide | omega) ?_
        first | rw [hH3.2.1] | rw [hH2.2.1] | rw [hH1.2.1]
        refine s119_218 ?_
        refine s119_225 (by first | assumption | rfl) (by first | assumption | (exact hpo _) | rfl | decide) (by first | assumption | decide | omega) ?_
        refine s119_228 ?_
        refine s119_229 (st := []) ?_
        first
          | (rw [if_neg (show ¬ (y2.1 6 ≠ 0 ∧ y2.1 5 < m) by omega)] at h; exact h _ (hs _) (hf _))
          | (rw [if_pos (show y2.1 6 ≠ 0 ∧ y2.1 5 < m by omega)] at h; exact h _ (hs _) (hf _))
  have fin3 : ∀ (g2 : Nat → Nat → Int), rC g2 (yearly1 y t a b) → rF g g2 → x_V S 119 177 [some (.ref 100)] [] (x_vm g2) n Q := by
    intro g2 hC2 hF2
    have hI2 := hI.early1 (t := t) (b := b) (by omega) hR.1 ha.1
    have e3 : (yearly1 y t a b).1 3 = y.1 3 := yearly1_3
    generalize yearly1 y t a b = y2 at hC2 hI2 e3 fin4
    have hP2 := hI2.rP (by omega) (by omega)
    have e6 : g2 100 19 = y2.1 6 := hC2.1.at.2.2.2.1
    have e5 : g2 100 26 = y2.1 5 := hC2.1.at.2.2.1
    have j6 := hI2.1.2.2.2.2.1
    have j5 := hI2.1.2.2.1
    have key : ∀ z, ytk3 y2 = z → ∀ g3, rC g3 z → rF g g3 → (z.1 6 = 0 ∨ z.1 6 = 1) → (0 ≤ z.1 5 ∧ z.1 5 ≤ 999999) → x_V S 119 195 [some (.ref 100)] [] (x_vm g3) n Q := fun z e g3 q1 q2 q3 q4 => fin4 z g3 q1 q2 q3 q4 (by rw [e])
    unfold ytk3 at key
    refine s119_177 rfl ?_
    refine s119_178 (by first | assumption | rfl) (by first | assumption | (exact hpo _) | rfl | decide) (by first | assumption | decide | omega) ?_
    rw [e6]
    refine s119_181 ⟨by omega, by omega⟩ (fun h181 => ?_) (fun h181 => ?_)
    · first
        | exact key y2 (if_neg (by omega)) _ hC2 hF2 j6 j5
        | exact key _ (if_pos ⟨by omega, by omega⟩) _ hC3 (hF2.tr hF3) j6 j5
    · refine s119_184 rfl ?_
      refine s119_185 (by first | assumption | rfl) (by first | assumption | (exact hpo _) | rfl | decide) (by first | assumption | decide | omega) ?_
      rw [e5]
      refine s119_188 ⟨by omega, by omega⟩ (fun h188 => ?_) (fun h188 => ?_)
      · first
          | exact key y2 (if_neg (by omega)) _ hC2 hF2 j6 j5
          | exact key _ (if_pos ⟨by omega, by omega⟩) _ hC3 (hF2.tr hF3) j6 j5
      · refine s119_191 rfl ?_
        refine s119_192 (by first | assumption | rfl) (by simp) ?_
        refine c100 hC2 hP2 (by omega) ⟨by omega, by omega⟩ (fun g3 hC3 hF3 => ?_)
        refine ⟨_, rfl, ?_⟩
        first
          | exact key y2 (if_neg (by omega)) _ hC2 hF2 j6 j5
          | exact key _ (if_pos ⟨by omega, by omega⟩) _ hC3 (hF2.tr hF3) j6 j5
  have hH1 := hH
  unfold yearly1 at fin3
  rcases (show t = 50 ∨ t = 53 ∨ (t ≠ 50 ∧ t ≠ 53) by omega) with hq | hq | hq
  · rw [if_pos hq] at fin3
    refine s119_143 rfl ?_
    refine s119_144 (by first | assumption | rfl) (by first | assumption | (exact hpo _) | rfl | decide) (by first | assumption | decide | omega) ?_
    first | rw [hH3.1] | rw [hH2.1] | rw [hH1.1]
    refine s119_147 ?_
    refine s119_149 ⟨by omega, by omega⟩ ⟨by omega, by omega⟩ (fun h149 => ?_) (fun h149 => ?_)
    · refine s119_164 rfl ?_
      refine s119_165 (by first | assumption | rfl) (by first | assumption | (exact hpo _) | rfl | decide) (by first | assumption | decide | omega) ?_
      first | rw [hH3.1] | rw [hH2.1] | rw [hH1.1]
      refine s119_168 ?_
      refine s119_170 ⟨by omega, by omega⟩ ⟨by omega, by omega⟩ (fun h170 => ?_) (fun h170 => ?_)
      · first
          | (exfalso; omega)
          | exact fin3 _ hC2 hF2
      · exfalso; omega
    · refine s119_152 rfl ?_
      refine s119_153 rfl ?_
      refine s119_154 (by first | assumption | rfl) (by first | assumption | (exact hpo _) | rfl | decide) (by first | assumption | decide | omega) ?_
      first | rw [hH3.2.2.2.1] | rw [hH2.2.2.2.1] | rw [hH1.2.2.2.1]
      refine s119_157 rfl ?_
      refine s119_158 (by first | assumption | rfl) (by first | assumption | (exact hpo _) | rfl | decide) (by first | assumption | decide | omega) ?_
      first | rw [hH3.2.2.2.2.1] | rw [hH2.2.2.2.2.1] | rw [hH1.2.2.2.2.1]
      refine s119_161 (by first | assumption | rfl) (by simp) ?_
      refine c101 hC hP hLr hlen ⟨by omega, by omega⟩ ⟨by omega, by omega⟩ (fun g2 hC2 hF2 => ?_)
      refine ⟨_, rfl, ?_⟩
      have hH2 := hH1.f hF2
      refine s119_164 rfl ?_
      refine s119_165 (by first | assumption | rfl) (by first | assumption | (exact hpo _) | rfl | decide) (by first | assumption | decide | omega) ?_
      first | rw [hH3.1] | rw [hH2.1] | rw [hH1.1]
      refine s119_168 ?_
      refine s119_170 ⟨by omega, by omega⟩ ⟨by omega, by omega⟩ (fun h170 => ?_) (fun h170 => ?_)
      · first
          | (exfalso; omega)
          | exact fin3 _ hC2 hF2
      · exfalso; omega
  · rw [if_neg (by omega), if_pos hq] at fin3
    refine s119_143 rfl ?_
    refine s119_144 (by first | assumption | rfl) (by first | assumption | (exact hpo _) | rfl | decide) (by first | assumption | decide | omega) ?_
    first | rw [hH3.1] | rw [hH2.1] | rw [hH1.1]
    refine s119_147 ?_
    refine s119_149 ⟨by omega, by omega⟩ ⟨by omega, by omega⟩ (fun h149 => ?_) (fun h149 => ?_)
    · refine s119_164 rfl ?_
      refine s119_165 (by first | assumption | rfl) (by first | assumption | (exact hpo _) | rfl | decide) (by first | assumption | decide | omega) ?_
      first | rw [hH3.1] | rw [hH2.1] | rw [hH1.1]
      refine s119_168 ?_
      refine s119_170 ⟨by omega, by omega⟩ ⟨by omega, by omega⟩ (fun h170 => ?_) (fun h170 => ?_)
      · first
          | (exfalso; omega)
          | exact fin3 _ hC2 hF2
      · refine s119_173 rfl ?_
        refine s119_174 (by first | assumption | rfl) (by simp) ?_
        refine c99 hC hP (fun g2 hC2 hF2 => ?_)
        refine ⟨_, rfl, ?_⟩
        rw [if_neg h6] at hC2
        first
          | (exfalso; omega)
          | exact fin3 _ hC2 hF2
    · exfalso; omega
  · rw [if_neg hq.1, if_neg hq.2] at fin3
    refine s119_143 rfl ?_
    refine s119_144 (by first | assumption | rfl) (by first | assumption | (exact hpo _) | rfl | decide) (by first | assumption | decide | omega) ?_
    first | rw [hH3.1] | rw [hH2.1] | rw [hH1.1]
    refine s119_147 ?_
    refine s119_149 ⟨by omega, by omega⟩ ⟨by omega, by omega⟩ (fun h149 => ?_) (fun h149 => ?_)
    · refine s119_164 rfl ?_
      refine s119_165 (by first | assumption | rfl) (by first | assumption | (exact hpo _) | rfl | decide) (by first | assumption | decide | omega) ?_
      first | rw [hH3.1] | rw [hH2.1] | rw [hH1.1]
      refine s119_168 ?_
      refine s119_170 ⟨by omega, by omega⟩ ⟨by omega, by omega⟩ (fun h170 => ?_) (fun h170 => ?_)
      · exact fin3 _ hC rF.rf
      · exfalso; omega
    · exfalso; omega
end MT
