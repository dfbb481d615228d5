/-! 77.law: one call of the law. -/
section LW
variable {S : Nat × (Nat → Int32)} {μ : xM} {g : Nat → Nat → Int} {n : Nat} {Q : xQ} {y : yS} {B : Int} {bs : List Int} {T : Nat}
theorem lg_self (x : Int64) : lg_cmp x x = I 0 := by
  unfold lg_cmp
  rw [if_neg (Int64.lt_irrefl), if_pos rfl]
  exact I_0.symm
theorem tl207 {i k b : Int} (h0 : g 100 0 = k) (hk : 0 ≤ k ∧ k ≤ 2) (h1 : k = 0 → g 115 0 = b) (h : x_V S 138 761 [some (.ref 1), some (.ref 2), some (.ref 100), some (.ref 115), some (.int (I i)), some (.int (I k)), some (.int (I b))] [] (x_vm g) n Q) : x_V S 138 207 [some (.ref 1), some (.ref 2), some (.ref 100), some (.ref 115), some (.int (I i)), some (.int (I k)), some (.int (I b))] [] (x_vm g) n Q := by
  refine s138_207 rfl ?_
  refine s138_208 (by first | assumption | rfl) (by simp) ?_
  refine c84 ?_
  refine ⟨_, rfl, ?_⟩
  rw [h0]
  refine s138_211 rfl ?_
  refine s138_213 ⟨by omega, by omega⟩ ⟨by omega, by omega⟩ (fun h213 => ?_) (fun h213 => ?_)
  · refine s138_218 rfl ?_
    refine s138_220 ⟨by omega, by omega⟩ (fun h220 => ?_) (fun h220 => ?_)
    · refine s138_235 ?_
      exact h
    · refine s138_223 rfl ?_
      refine s138_224 ?_
      refine v_lald d138_225 rfl rfl ?_
      rw [show g x_out 0 = b from h1 (by omega)]
      refine s138_226 rfl ?_
      refine s138_228 ?_
      refine s138_229 ?_
      rw [lg_self]
      refine s138_230 ⟨by omega, by omega⟩ (fun h230 => ?_) (fun h230 => ?_)
      · refine s138_235 ?_
        exact h
      · refine s138_233 ?_
        refine s138_234 (st := []) (by omega) ?_
        first | (exfalso; omega) | (exfalso; exact absurd rfl (by assumption))
  · refine s138_216 ?_
    refine s138_217 (st := []) (by omega) ?_
    first | (exfalso; omega) | (exfalso; exact absurd rfl (by assumption))
theorem tl275 {i k b : Int} (h0 : g 100 0 = k) (hk : 0 ≤ k ∧ k ≤ 2) (h1 : k = 0 → g 115 0 = b) (h : x_V S 138 761 [some (.ref 1), some (.ref 2), some (.ref 100), some (.ref 115), some (.int (I i)), some (.int (I k)), some (.int (I b))] [] (x_vm g) n Q) : x_V S 138 275 [some (.ref 1), some (.ref 2), some (.ref 100), some (.ref 115), some (.int (I i)), some (.int (I k)), some (.int (I b))] [] (x_vm g) n Q := by
  refine s138_275 rfl ?_
  refine s138_276 (by first | assumption | rfl) (by simp) ?_
  refine c84 ?_
  refine ⟨_, rfl, ?_⟩
  rw [h0]
  refine s138_279 rfl ?_
  refine s138_281 ⟨by omega, by omega⟩ ⟨by omega, by omega⟩ (fun h281 => ?_) (fun h281 => ?_)
  · refine s138_286 rfl ?_
    refine s138_288 ⟨by omega, by omega⟩ (fun h288 => ?_) (fun h288 => ?_)
    · refine s138_303 ?_
      exact h
    · refine s138_291 rfl ?_
      refine s138_292 ?_
      refine v_lald d138_293 rfl rfl ?_
      rw [show g x_out 0 = b from h1 (by omega)]
      refine s138_294 rfl ?_
      refine s138_296 ?_
      refine s138_297 ?_
      rw [lg_self]
      refine s138_298 ⟨by omega, by omega⟩ (fun h298 => ?_) (fun h298 => ?_)
      · refine s138_303 ?_
        exact h
      · refine s138_301 ?_
        refine s138_302 (st := []) (by omega) ?_
        first | (exfalso; omega) | (exfalso; exact absurd rfl (by assumption))
  · refine s138_284 ?_
    refine s138_285 (st := []) (by omega) ?_
    first | (exfalso; omega) | (exfalso; exact absurd rfl (by assumption))
theorem tl331 {i k b : Int} (h0 : g 100 0 = k) (hk : 0 ≤ k ∧ k ≤ 2) (h1 : k = 0 → g 115 0 = b) (h : x_V S 138 761 [some (.ref 1), some (.ref 2), some (.ref 100), some (.ref 115), some (.int (I i)), some (.int (I k)), some (.int (I b))] [] (x_vm g) n Q) : x_V S 138 331 [some (.ref 1), some (.ref 2), some (.ref 100), some (.ref 115), some (.int (I i)), some (.int (I k)), some (.int (I b))] [] (x_vm g) n Q := by
  refine s138_331 rfl ?_
  refine s138_332 (by first | assumption | rfl) (by simp) ?_
  refine c84 ?_
  refine ⟨_, rfl, ?_⟩
  rw [h0]
  refine s138_335 rfl ?_
  refine s138_337 ⟨by omega, by omega⟩ ⟨by omega, by omega⟩ (fun h337 => ?_) (fun h337 => ?_)
  · refine s138_342 rfl ?_
    refine s138_344 ⟨by omega, by omega⟩ (fun h344 => ?_) (fun h344 => ?_)
    · refine s138_359 ?_
      exact h
    · refine s138_347 rfl ?_
      refine s138_348 ?_
      refine v_lald d138_349 rfl rfl ?_
      rw [show g x_out 0 = b from h1 (by omega)]
      refine s138_350 rfl ?_
      refine s138_352 ?_
      refine s138_353 ?_
      rw [lg_self]
      refine s138_354 ⟨by omega, by omega⟩ (fun h354 => ?_) (fun h354 => ?_)
      · refine s138_359 ?_
        exact h
      · refine s138_357 ?_
        refine s138_358 (st := []) (by omega) ?_
        first | (exfalso; omega) | (exfalso; exact absurd rfl (by assumption))
  · refine s138_340 ?_
    refine s138_341 (st := []) (by omega) ?_
    first | (exfalso; omega) | (exfalso; exact absurd rfl (by assumption))
theorem tl375 {i k b : Int} (h0 : g 100 0 = k) (hk : 0 ≤ k ∧ k ≤ 2) (h1 : k = 0 → g 115 0 = b) (h : x_V S 138 761 [some (.ref 1), some (.ref 2), some (.ref 100), some (.ref 115), some (.int (I i)), some (.int (I k)), some (.int (I b))] [] (x_vm g) n Q) : x_V S 138 375 [some (.ref 1), some (.ref 2), some (.ref 100), some (.ref 115), some (.int (I i)), some (.int (I k)), some (.int (I b))] [] (x_vm g) n Q := by
  refine s138_375 rfl ?_
  refine s138_376 (by first | assumption | rfl) (by simp) ?_
  refine c84 ?_
  refine ⟨_, rfl, ?_⟩
  rw [h0]
  refine s138_379 rfl ?_
  refine s138_381 ⟨by omega, by omega⟩ ⟨by omega, by omega⟩ (fun h381 => ?_) (fun h381 => ?_)
  · refine s138_386 rfl ?_
    refine s138_388 ⟨by omega, by omega⟩ (fun h388 => ?_) (fun h388 => ?_)
    · refine s138_403 ?_
      exact h
    · refine s138_391 rfl ?_
      refine s138_392 ?_
      refine v_lald d138_393 rfl rfl ?_
      rw [show g x_out 0 = b from h1 (by omega)]
      refine s138_394 rfl ?_
      refine s138_396 ?_
      refine s138_397 ?_
      rw [lg_self]
      refine s138_398 ⟨by omega, by omega⟩ (fun h398 => ?_) (fun h398 => ?_)
      · refine s138_403 ?_
        exact h
      · refine s138_401 ?_
        refine s138_402 (st := []) (by omega) ?_
        first | (exfalso; omega) | (exfalso; exact absurd rfl (by assumption))
  · refine s138_384 ?_
    refine s138_385 (st := []) (by omega) ?_
    first | (exfalso; omega) | (exfalso; exact absurd rfl (by assumption))
theorem tl469 {i k b : Int} (h0 : g 100 0 = k) (hk : 0 ≤ k ∧ k ≤ 2) (h1 : k = 0 → g 115 0 = b) (h : x_V S 138 761 [some (.ref 1), some (.ref 2), some (.ref 100), some (.ref 115), some (.int (I i)), some (.int (I k)), some (.int (I b))] [] (x_vm g) n Q) : x_V S 138 469 [some (.ref 1), some (.ref 2), some (.ref 100), some (.ref 115), some (.int (I i)), some (.int (I k)), some (.int (I b))] [] (x_vm g) n Q := by
  refine s138_469 rfl ?_
  refine s138_470 (by first | assumption | rfl) (by simp) ?_
  refine c84 ?_
  refine ⟨_, rfl, ?_⟩
  rw [h0]
  refine s138_473 rfl ?_
  refine s138_475 ⟨by omega, by omega⟩ ⟨by omega, by omega⟩ (fun h475 => ?_) (fun h475 => ?_)
  · refine s138_480 rfl ?_
    refine s138_482 ⟨by omega, by omega⟩ (fun h482 => ?_) (fun h482 => ?_)
    · refine s138_497 ?_
      exact h
    · refine s138_485 rfl ?_
      refine s138_486 ?_
      refine v_lald d138_487 rfl rfl ?_
      rw [show g x_out 0 = b from h1 (by omega)]
      refine s138_488 rfl ?_
      refine s138_490 ?_
      refine s138_491 ?_
      rw [lg_self]
      refine s138_492 ⟨by omega, by omega⟩ (fun h492 => ?_) (fun h492 => ?_)
      · refine s138_497 ?_
        exact h
      · refine s138_495 ?_
        refine s138_496 (st := []) (by omega) ?_
        first | (exfalso; omega) | (exfalso; exact absurd rfl (by assumption))
  · refine s138_478 ?_
    refine s138_479 (st := []) (by omega) ?_
    first | (exfalso; omega) | (exfalso; exact absurd rfl (by assumption))
theorem tl538 {i k b : Int} (h0 : g 100 0 = k) (hk : 0 ≤ k ∧ k ≤ 2) (h1 : k = 0 → g 115 0 = b) (h : x_V S 138 761 [some (.ref 1), some (.ref 2), some (.ref 100), some (.ref 115), some (.int (I i)), some (.int (I k)), some (.int (I b))] [] (x_vm g) n Q) : x_V S 138 538 [some (.ref 1), some (.ref 2), some (.ref 100), some (.ref 115), some (.int (I i)), some (.int (I k)), some (.int (I b))] [] (x_vm g) n Q := by
  refine s138_538 rfl ?_
  refine s138_539 (by first | assumption | rfl) (by simp) ?_
  refine c84 ?_
  refine ⟨_, rfl, ?_⟩
  rw [h0]
  refine s138_542 rfl ?_
  refine s138_544 ⟨by omega, by omega⟩ ⟨by omega, by omega⟩ (fun h544 => ?_) (fun h544 => ?_)
  · refine s138_549 rfl ?_
    refine s138_551 ⟨by omega, by omega⟩ (fun h551 => ?_) (fun h551 => ?_)
    · refine s138_566 ?_
      exact h
    · refine s138_554 rfl ?_
      refine s138_555 ?_
      refine v_lald d138_556 rfl rfl ?_
      rw [show g x_out 0 = b from h1 (by omega)]
      refine s138_557 rfl ?_
      refine s138_559 ?_
      refine s138_560 ?_
      rw [lg_self]
      refine s138_561 ⟨by omega, by omega⟩ (fun h561 => ?_) (fun h561 => ?_)
      · refine s138_566 ?_
        exact h
      · refine s138_564 ?_
        refine s138_565 (st := []) (by omega) ?_
        first | (exfalso; omega) | (exfalso; exact absurd rfl (by assumption))
  · refine s138_547 ?_
    refine s138_548 (st := []) (by omega) ?_
    first | (exfalso; omega) | (exfalso; exact absurd rfl (by assumption))
theorem tl606 {i k b : Int} (h0 : g 100 0 = k) (hk : 0 ≤ k ∧ k ≤ 2) (h1 : k = 0 → g 115 0 = b) (h : x_V S 138 761 [some (.ref 1), some (.ref 2), some (.ref 100), some (.ref 115), some (.int (I i)), some (.int (I k)), some (.int (I b))] [] (x_vm g) n Q) : x_V S 138 606 [some (.ref 1), some (.ref 2), some (.ref 100), some (.ref 115), some (.int (I i)), some (.int (I k)), some (.int (I b))] [] (x_vm g) n Q := by
  refine s138_606 rfl ?_
  refine s138_607 (by first | assumption | rfl) (by simp) ?_
  refine c84 ?_
  refine ⟨_, rfl, ?_⟩
  rw [h0]
  refine s138_610 rfl ?_
  refine s138_612 ⟨by omega, by omega⟩ ⟨by omega, by omega⟩ (fun h612 => ?_) (fun h612 => ?_)
  · refine s138_617 rfl ?_
    refine s138_619 ⟨by omega, by omega⟩ (fun h619 => ?_) (fun h619 => ?_)
    · refine s138_634 ?_
      exact h
    · refine s138_622 rfl ?_
      refine s138_623 ?_
      refine v_lald d138_624 rfl rfl ?_
      rw [show g x_out 0 = b from h1 (by omega)]
      refine s138_625 rfl ?_
      refine s138_627 ?_
      refine s138_628 ?_
      rw [lg_self]
      refine s138_629 ⟨by omega, by omega⟩ (fun h629 => ?_) (fun h629 => ?_)
      · refine s138_634 ?_
        exact h
      · refine s138_632 ?_
        refine s138_633 (st := []) (by omega) ?_
        first | (exfalso; omega) | (exfalso; exact absurd rfl (by assumption))
  · refine s138_615 ?_
    refine s138_616 (st := []) (by omega) ?_
    first | (exfalso; omega) | (exfalso; exact absurd rfl (by assumption))
theorem tl662 {i k b : Int} (h0 : g 100 0 = k) (hk : 0 ≤ k ∧ k ≤ 2) (h1 : k = 0 → g 115 0 = b) (h : x_V S 138 761 [some (.ref 1), some (.ref 2), some (.ref 100), some (.ref 115), some (.int (I i)), some (.int (I k)), some (.int (I b))] [] (x_vm g) n Q) : x_V S 138 662 [some (.ref 1), some (.ref 2), some (.ref 100), some (.ref 115), some (.int (I i)), some (.int (I k)), some (.int (I b))] [] (x_vm g) n Q := by
  refine s138_662 rfl ?_
  refine s138_663 (by first | assumption | rfl) (by simp) ?_
  refine c84 ?_
  refine ⟨_, rfl, ?_⟩
  rw [h0]
  refine s138_666 rfl ?_
  refine s138_668 ⟨by omega, by omega⟩ ⟨by omega, by omega⟩ (fun h668 => ?_) (fun h668 => ?_)
  · refine s138_673 rfl ?_
    refine s138_675 ⟨by omega, by omega⟩ (fun h675 => ?_) (fun h675 => ?_)
    · refine s138_690 ?_
      exact h
    · refine s138_678 rfl ?_
      refine s138_679 ?_
      refine v_lald d138_680 rfl rfl ?_
      rw [show g x_out 0 = b from h1 (by omega)]
      refine s138_681 rfl ?_
      refine s138_683 ?_
      refine s138_684 ?_
      rw [lg_self]
      refine s138_685 ⟨by omega, by omega⟩ (fun h685 => ?_) (fun h685 => ?_)
      · refine s138_690 ?_
        exact h
      · refine s138_688 ?_
        refine s138_689 (st := []) (by omega) ?_
        first | (exfalso; omega) | (exfalso; exact absurd rfl (by assumption))
  · refine s138_671 ?_
    refine s138_672 (st := []) (by omega) ?_
    first | (exfalso; omega) | (exfalso; exact absurd rfl (by assumption))
theorem tl730 {i k b : Int} (h0 : g 100 0 = k) (hk : 0 ≤ k ∧ k ≤ 2) (h1 : k = 0 → g 115 0 = b) (h : x_V S 138 761 [some (.ref 1), some (.ref 2), some (.ref 100), some (.ref 115), some (.int (I i)), some (.int (I k)), some (.int (I b))] [] (x_vm g) n Q) : x_V S 138 730 [some (.ref 1), some (.ref 2), some (.ref 100), some (.ref 115), some (.int (I i)), some (.int (I k)), some (.int (I b))] [] (x_vm g) n Q := by
  refine s138_730 rfl ?_
  refine s138_731 (by first | assumption | rfl) (by simp) ?_
  refine c84 ?_
  refine ⟨_, rfl, ?_⟩
  rw [h0]
  refine s138_734 rfl ?_
  refine s138_736 ⟨by omega, by omega⟩ ⟨by omega, by omega⟩ (fun h736 => ?_) (fun h736 => ?_)
  · refine s138_741 rfl ?_
    refine s138_743 ⟨by omega, by omega⟩ (fun h743 => ?_) (fun h743 => ?_)
    · refine s138_758 ?_
      exact h
    · refine s138_746 rfl ?_
      refine s138_747 ?_
      refine v_lald d138_748 rfl rfl ?_
      rw [show g x_out 0 = b from h1 (by omega)]
      refine s138_749 rfl ?_
      refine s138_751 ?_
      refine s138_752 ?_
      rw [lg_self]
      refine s138_753 ⟨by omega, by omega⟩ (fun h753 => ?_) (fun h753 => ?_)
      · refine s138_758 ?_
        exact h
      · refine s138_756 ?_
        refine s138_757 (st := []) (by omega) ?_
        first | (exfalso; omega) | (exfalso; exact absurd rfl (by assumption))
  · refine s138_739 ?_
    refine s138_740 (st := []) (by omega) ?_
    first | (exfalso; omega) | (exfalso; exact absurd rfl (by assumption))
end LW
