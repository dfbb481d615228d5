/-! 78.law: the calls of the law, one by one. -/
section LW
variable {S : Nat × (Nat → Int32)} {μ : xM} {g : Nat → Nat → Int} {n : Nat} {Q : xQ} {y : yS} {B : Int} {bs : List Int} {T : Nat}
/-- what holds before call number T -/
def lJx (T : Nat) (g : Nat → Nat → Int) (y : yS) (bs : List Int) (n : Nat) : Prop := zC g y bs ∧ sC g y bs ∧ yI (1 + 3 * T) 2000 T T T T y ∧ 116 ≤ n ∧ n ≤ 116 + T
abbrev lNx (S : Nat × (Nat → Int32)) (T : Nat) (Q : xQ) : Prop := ∀ g' y' bs' n' w5 w6, lJx (T + 1) g' y' bs' n' → x_V S 138 761 [some (.ref 1), some (.ref 2), some (.ref 100), some (.ref 115), some (.int (I (7 * (T : Int)))), w5, w6] [] (x_vm g') n' Q
theorem lJx.stay (h : lJx T g y bs n) : lJx (T + 1) g y bs n := ⟨h.1, h.2.1, h.2.2.1.up (by omega) (by omega) (by omega) (by omega) (by omega) (by omega), h.2.2.2.1, by have := h.2.2.2.2; omega⟩
theorem zF.o {g1 : Nat → Nat → Int} {v : Int} (h : sC g y bs) (f : zF g g1) : sC (x_uf g1 115 0 v) y bs := h.lo (fun a i q1 q2 => by rw [x_uf_ne (by omega)]; exact f a i q1)
theorem zC.o {v : Int} (h : zC g y bs) : zC (x_uf g 115 0 v) y bs := h.hi (fun a i q => x_uf_ne (by omega))
theorem sF.z {g2 : Nat → Nat → Int} (f : sF g g2) (h : zC g y bs) : zC g2 y bs := h.hi (fun a i q => f a i (Or.inl q))
theorem sF.v {g2 : Nat → Nat → Int} {v : Int} (f : sF (x_uf g 115 0 v) g2) : g2 115 0 = v := (f _ _ (Or.inr (by omega))).trans (x_uf_eq _ _ _ _)
theorem e1 {p1 p2 : Int} (sv1 : S.2 (7 * (T : Int) + 1).toNat = I p1) (pb1 : ib p1) (sv2 : S.2 (7 * (T : Int) + 2).toNat = I p2) (pb2 : ib p2) (hJ : lJx T g y bs n) (hT : 7 * T + 7 ≤ S.1) (hS1 : S.1 ≤ 3584) (next : lNx S T Q) {w5 w6 : Option Value} : x_V S 138 238 [some (.ref 1), some (.ref 2), some (.ref 100), some (.ref 115), some (.int (I (7 * (T : Int)))), w5, w6] [] (x_vm g) n Q := by
  obtain ⟨hZ, hS, hI, hn1, hn2⟩ := hJ
  have hn : 116 ≤ n ∧ n < 640 := ⟨hn1, by omega⟩
  have hIc := hI.clr
  have hlen := hI.2.1.1
  have fin : ∀ (g2 : Nat → Nat → Int) (y2 : yS) (bs2 : List Int) (n2 : Nat) (k b : Int), zC g2 y2 bs2 → sC g2 y2 bs2 → yI (1 + 3 * ((T + 1 : Nat) : Int)) 2000 ((T + 1 : Nat) : Int) ((T + 1 : Nat) : Int) ((T + 1 : Nat) : Int) ((T + 1 : Nat) : Int) y2 → 116 ≤ n2 ∧ n2 ≤ 116 + (T + 1) → g2 100 0 = k → 0 ≤ k ∧ k ≤ 2 → (k = 0 → g2 115 0 = b) → x_V S 138 275 [some (.ref 1), some (.ref 2), some (.ref 100), some (.ref 115), some (.int (I (7 * (T : Int)))), some (.int (I k)), some (.int (I b))] [] (x_vm g2) n2 Q := fun g2 y2 bs2 n2 k b q1 q2 q3 q4 q5 q6 q7 => tl275 q5 q6 q7 (next g2 y2 bs2 n2 _ _ ⟨q1, q2, q3, q4.1, q4.2⟩)
  have up0 : yI (1 + 3 * ((T + 1 : Nat) : Int)) 2000 ((T + 1 : Nat) : Int) ((T + 1 : Nat) : Int) ((T + 1 : Nat) : Int) ((T + 1 : Nat) : Int) y := hI.up (by omega) (by omega) (by omega) (by omega) (by omega) (by omega)
  have upc : yI (1 + 3 * ((T + 1 : Nat) : Int)) 2000 ((T + 1 : Nat) : Int) ((T + 1 : Nat) : Int) ((T + 1 : Nat) : Int) ((T + 1 : Nat) : Int) (yclr y) := hIc.up (by omega) (by omega) (by omega) (by omega) (by omega) (by omega)
  refine s138_238 rfl ?_
  refine s138_239 rfl ?_
  refine s138_240 rfl ?_
  refine s138_242 ?_
  refine s138_243 ?_
  refine v_sald d138_244 (by omega) (by omega) (by omega) ?_
  rw [sv1]
  refine s138_245 rfl ?_
  refine s138_246 rfl ?_
  refine s138_248 ?_
  refine s138_249 ?_
  refine v_sald d138_250 (by omega) (by omega) (by omega) ?_
  rw [sv2]
  refine s138_251 rfl ?_
  refine s138_252 rfl rfl (by simp) ?_
  refine c130 hZ pb1 pb2 hn (fun q => ?_) (fun q q2 => ?_) (fun q q2 g1 z1 f1 => ?_)
  · refine ⟨_, rfl, ?_⟩
    refine s138_255 ?_
    refine s138_257 rfl ?_
    refine s138_258 rfl ?_
    refine s138_259 rfl ?_
    refine s138_261 ?_
    refine s138_262 ?_
    refine v_sald d138_263 (by omega) (by omega) (by omega) ?_
    rw [sv1]
    refine s138_264 rfl ?_
    refine s138_265 rfl ?_
    refine s138_267 ?_
    refine s138_268 ?_
    refine v_sald d138_269 (by omega) (by omega) (by omega) ?_
    rw [sv2]
    refine s138_270 (by first | assumption | rfl) (by simp) ?_
    refine c104 hS pb1 pb2 (fun r g2 z2 f2 t2 => ?_) (fun r r2 g2 z2 f2 t2 => ?_) (fun r r2 g2 z2 f2 t2 => ?_)
    · refine ⟨_, rfl, ?_⟩
      refine s138_273 ?_
      exact fin _ _ _ _ _ _ (f2.z hZ) z2 up0 ⟨by omega, by omega⟩ t2 (by omega) (fun q => absurd q (by omega))
    · exact absurd r q
    · exact absurd r q
  · refine ⟨_, rfl, ?_⟩
    refine s138_255 ?_
    refine s138_257 rfl ?_
    refine s138_258 rfl ?_
    refine s138_259 rfl ?_
    refine s138_261 ?_
    refine s138_262 ?_
    refine v_sald d138_263 (by omega) (by omega) (by omega) ?_
    rw [sv1]
    refine s138_264 rfl ?_
    refine s138_265 rfl ?_
    refine s138_267 ?_
    refine s138_268 ?_
    refine v_sald d138_269 (by omega) (by omega) (by omega) ?_
    rw [sv2]
    refine s138_270 (by first | assumption | rfl) (by simp) ?_
    refine c104 hS pb1 pb2 (fun r g2 z2 f2 t2 => ?_) (fun r r2 g2 z2 f2 t2 => ?_) (fun r r2 g2 z2 f2 t2 => ?_)
    · exact absurd q r
    · refine ⟨_, rfl, ?_⟩
      refine s138_273 ?_
      exact fin _ _ _ _ _ _ (f2.z hZ) z2 up0 ⟨by omega, by omega⟩ t2 (by omega) (fun q => absurd q (by omega))
    · exact absurd r2 q2
  · refine ⟨_, rfl, ?_⟩
    refine s138_255 ?_
    refine s138_257 rfl ?_
    refine s138_258 rfl ?_
    refine s138_259 rfl ?_
    refine s138_261 ?_
    refine s138_262 ?_
    refine v_sald d138_263 (by omega) (by omega) (by omega) ?_
    rw [sv1]
    refine s138_264 rfl ?_
    refine s138_265 rfl ?_
    refine s138_267 ?_
    refine s138_268 ?_
    refine v_sald d138_269 (by omega) (by omega) (by omega) ?_
    rw [sv2]
    refine s138_270 (by first | assumption | rfl) (by simp) ?_
    refine c104 (zF.o hS f1) pb1 pb2 (fun r g2 z2 f2 t2 => ?_) (fun r r2 g2 z2 f2 t2 => ?_) (fun r r2 g2 z2 f2 t2 => ?_)
    · exact absurd q r
    · exact absurd q2 r2
    · refine ⟨_, rfl, ?_⟩
      refine s138_273 ?_
      exact fin _ _ _ _ _ _ (f2.z z1.o) z2 upc ⟨by omega, by omega⟩ t2 (by omega) (fun _ => f2.v)
theorem e2 {p1 : Int} (sv1 : S.2 (7 * (T : Int) + 1).toNat = I p1) (pb1 : ib p1) (hJ : lJx T g y bs n) (hT : 7 * T + 7 ≤ S.1) (hS1 : S.1 ≤ 3584) (next : lNx S T Q) {w5 w6 : Option Value} : x_V S 138 306 [some (.ref 1), some (.ref 2), some (.ref 100), some (.ref 115), some (.int (I (7 * (T : Int)))), w5, w6] [] (x_vm g) n Q := by
  obtain ⟨hZ, hS, hI, hn1, hn2⟩ := hJ
  have hn : 116 ≤ n ∧ n < 640 := ⟨hn1, by omega⟩
  have hIc := hI.clr
  have hlen := hI.2.1.1
  have fin : ∀ (g2 : Nat → Nat → Int) (y2 : yS) (bs2 : List Int) (n2 : Nat) (k b : Int), zC g2 y2 bs2 → sC g2 y2 bs2 → yI (1 + 3 * ((T + 1 : Nat) : Int)) 2000 ((T + 1 : Nat) : Int) ((T + 1 : Nat) : Int) ((T + 1 : Nat) : Int) ((T + 1 : Nat) : Int) y2 → 116 ≤ n2 ∧ n2 ≤ 116 + (T + 1) → g2 100 0 = k → 0 ≤ k ∧ k ≤ 2 → (k = 0 → g2 115 0 = b) → x_V S 138 331 [some (.ref 1), some (.ref 2), some (.ref 100), some (.ref 115), some (.int (I (7 * (T : Int)))), some (.int (I k)), some (.int (I b))] [] (x_vm g2) n2 Q := fun g2 y2 bs2 n2 k b q1 q2 q3 q4 q5 q6 q7 => tl331 q5 q6 q7 (next g2 y2 bs2 n2 _ _ ⟨q1, q2, q3, q4.1, q4.2⟩)
  have up0 : yI (1 + 3 * ((T + 1 : Nat) : Int)) 2000 ((T + 1 : Nat) : Int) ((T + 1 : Nat) : Int) ((T + 1 : Nat) : Int) ((T + 1 : Nat) : Int) y := hI.up (by omega) (by omega) (by omega) (by omega) (by omega) (by omega)
  have upc : yI (1 + 3 * ((T + 1 : Nat) : Int)) 2000 ((T + 1 : Nat) : Int) ((T + 1 : Nat) : Int) ((T + 1 : Nat) : Int) ((T + 1 : Nat) : Int) (yclr y) := hIc.up (by omega) (by omega) (by omega) (by omega) (by omega) (by omega)
  refine s138_306 rfl ?_
  refine s138_307 rfl ?_
  refine s138_308 rfl ?_
  refine s138_310 ?_
  refine s138_311 ?_
  refine v_sald d138_312 (by omega) (by omega) (by omega) ?_
  rw [sv1]
  refine s138_313 rfl ?_
  refine s138_314 rfl rfl (by simp) ?_
  refine c131 hZ pb1 hn (fun q => ?_) (fun q q2 => ?_) (fun q q2 g1 z1 f1 => ?_)
  · refine ⟨_, rfl, ?_⟩
    refine s138_317 ?_
    refine s138_319 rfl ?_
    refine s138_320 rfl ?_
    refine s138_321 rfl ?_
    refine s138_323 ?_
    refine s138_324 ?_
    refine v_sald d138_325 (by omega) (by omega) (by omega) ?_
    rw [sv1]
    refine s138_326 (by first | assumption | rfl) (by simp) ?_
    refine c105 hS pb1 (fun r g2 z2 f2 t2 => ?_) (fun r r2 g2 z2 f2 t2 => ?_) (fun r r2 g2 z2 f2 t2 => ?_)
    · refine ⟨_, rfl, ?_⟩
      refine s138_329 ?_
      exact fin _ _ _ _ _ _ (f2.z hZ) z2 up0 ⟨by omega, by omega⟩ t2 (by omega) (fun q => absurd q (by omega))
    · exact absurd r q
    · exact absurd r q
  · refine ⟨_, rfl, ?_⟩
    refine s138_317 ?_
    refine s138_319 rfl ?_
    refine s138_320 rfl ?_
    refine s138_321 rfl ?_
    refine s138_323 ?_
    refine s138_324 ?_
    refine v_sald d138_325 (by omega) (by omega) (by omega) ?_
    rw [sv1]
    refine s138_326 (by first | assumption | rfl) (by simp) ?_
    refine c105 hS pb1 (fun r g2 z2 f2 t2 => ?_) (fun r r2 g2 z2 f2 t2 => ?_) (fun r r2 g2 z2 f2 t2 => ?_)
    · exact absurd q r
    · refine ⟨_, rfl, ?_⟩
      refine s138_329 ?_
      exact fin _ _ _ _ _ _ (f2.z hZ) z2 up0 ⟨by omega, by omega⟩ t2 (by omega) (fun q => absurd q (by omega))
    · exact absurd r2 (by omega)
  · refine ⟨_, rfl, ?_⟩
    refine s138_317 ?_
    refine s138_319 rfl ?_
    refine s138_320 rfl ?_
    refine s138_321 rfl ?_
    refine s138_323 ?_
    refine s138_324 ?_
    refine v_sald d138_325 (by omega) (by omega) (by omega) ?_
    rw [sv1]
    refine s138_326 (by first | assumption | rfl) (by simp) ?_
    refine c105 (zF.o hS f1) pb1 (fun r g2 z2 f2 t2 => ?_) (fun r r2 g2 z2 f2 t2 => ?_) (fun r r2 g2 z2 f2 t2 => ?_)
    · exact absurd q r
    · exact absurd r2 (by omega)
    · refine ⟨_, rfl, ?_⟩
      refine s138_329 ?_
      exact fin _ _ _ _ _ _ (f2.z z1.o) z2 upc ⟨by omega, by omega⟩ t2 (by omega) (fun _ => f2.v)
theorem e3 (hJ : lJx T g y bs n) (hT : 7 * T + 7 ≤ S.1) (hS1 : S.1 ≤ 3584) (next : lNx S T Q) {w5 w6 : Option Value} : x_V S 138 362 [some (.ref 1), some (.ref 2), some (.ref 100), some (.ref 115), some (.int (I (7 * (T : Int)))), w5, w6] [] (x_vm g) n Q := by
  obtain ⟨hZ, hS, hI, hn1, hn2⟩ := hJ
  have hn : 116 ≤ n ∧ n < 640 := ⟨hn1, by omega⟩
  have hIc := hI.clr
  have hlen := hI.2.1.1
  have fin : ∀ (g2 : Nat → Nat → Int) (y2 : yS) (bs2 : List Int) (n2 : Nat) (k b : Int), zC g2 y2 bs2 → sC g2 y2 bs2 → yI (1 + 3 * ((T + 1 : Nat) : Int)) 2000 ((T + 1 : Nat) : Int) ((T + 1 : Nat) : Int) ((T + 1 : Nat) : Int) ((T + 1 : Nat) : Int) y2 → 116 ≤ n2 ∧ n2 ≤ 116 + (T + 1) → g2 100 0 = k → 0 ≤ k ∧ k ≤ 2 → (k = 0 → g2 115 0 = b) → x_V S 138 375 [some (.ref 1), some (.ref 2), some (.ref 100), some (.ref 115), some (.int (I (7 * (T : Int)))), some (.int (I k)), some (.int (I b))] [] (x_vm g2) n2 Q := fun g2 y2 bs2 n2 k b q1 q2 q3 q4 q5 q6 q7 => tl375 q5 q6 q7 (next g2 y2 bs2 n2 _ _ ⟨q1, q2, q3, q4.1, q4.2⟩)
  have up0 : yI (1 + 3 * ((T + 1 : Nat) : Int)) 2000 ((T + 1 : Nat) : Int) ((T + 1 : Nat) : Int) ((T + 1 : Nat) : Int) ((T + 1 : Nat) : Int) y := hI.up (by omega) (by omega) (by omega) (by omega) (by omega) (by omega)
  have upc : yI (1 + 3 * ((T + 1 : Nat) : Int)) 2000 ((T + 1 : Nat) : Int) ((T + 1 : Nat) : Int) ((T + 1 : Nat) : Int) ((T + 1 : Nat) : Int) (yclr y) := hIc.up (by omega) (by omega) (by omega) (by omega) (by omega) (by omega)
  have hB := hIc.B (by omega) (by omega) (by omega) (by omega)
  have hR := hI.2.2.1.2.2
  have hU := hI.2.2.2.2
  have hb := hn
  refine s138_362 rfl ?_
  refine s138_363 rfl ?_
  refine s138_364 rfl rfl (by simp) ?_
  refine c132 hZ hB (by omega) (by omega) (hI.Nn (by omega)) hI.2.2.2.1 (by omega) (by omega) hn (fun q => ?_) (fun q q2 g1 z1 f1 => ?_) (fun q t m d w q2 q3 g1 z1 f1 => ?_)
  · refine ⟨_, rfl, ?_⟩
    refine s138_367 ?_
    refine s138_369 rfl ?_
    refine s138_370 (by first | assumption | rfl) (by simp) ?_
    refine c120 (u := g 7) hS hIc (by omega) (by omega) (by omega) (by omega) ⟨by omega, by omega⟩ (by omega) (fun r g2 z2 f2 t2 => ?_) (fun r r2 g2 z2 f2 t2 => ?_) (fun r t' m' d' w' r2 g2 z2 f2 t2 => ?_)
    · refine ⟨_, rfl, ?_⟩
      refine s138_373 ?_
      exact fin _ _ _ _ _ _ (f2.z hZ) z2 up0 ⟨by omega, by omega⟩ t2 (by omega) (fun q => absurd q (by omega))
    · exact absurd q r
    · exact absurd q r
  · refine ⟨_, rfl, ?_⟩
    refine s138_367 ?_
    refine s138_369 rfl ?_
    refine s138_370 (by first | assumption | rfl) (by simp) ?_
    refine c120 (u := g 7) (zF.o hS f1) hIc (by omega) (by omega) (by omega) (by omega) ⟨by omega, by omega⟩ (by omega) (fun r g2 z2 f2 t2 => ?_) (fun r r2 g2 z2 f2 t2 => ?_) (fun r t' m' d' w' r2 g2 z2 f2 t2 => ?_)
    · exact absurd r q
    · refine ⟨_, rfl, ?_⟩
      refine s138_373 ?_
      exact fin _ _ _ _ _ _ (f2.z z1.o) z2 upc ⟨by omega, by omega⟩ t2 (by omega) (fun _ => f2.v)
    · exact absurd (q2.symm.trans r2) (fun e => by cases e)
  · refine ⟨_, rfl, ?_⟩
    refine s138_367 ?_
    refine s138_369 rfl ?_
    refine s138_370 (by first | assumption | rfl) (by simp) ?_
    refine c120 (u := g 7) (zF.o hS f1) hIc (by omega) (by omega) (by omega) (by omega) ⟨by omega, by omega⟩ (by omega) (fun r g2 z2 f2 t2 => ?_) (fun r r2 g2 z2 f2 t2 => ?_) (fun r t' m' d' w' r2 g2 z2 f2 t2 => ?_)
    · exact absurd r q
    · exact absurd (q2.symm.trans r2) (fun e => by cases e)
    · refine ⟨_, rfl, ?_⟩
      refine s138_373 ?_
      (have e := Option.some.inj (q2.symm.trans r2); cases e; exact fin _ _ _ _ _ _ (f2.z z1.o) z2 ((hIc.recv (by omega) (by omega) q3).up (by omega) (by omega) (by omega) (by omega) (by omega) (by omega)) ⟨by omega, by omega⟩ t2 (by omega) (fun _ => f2.v))
theorem e6 {p1 p2 : Int} (sv1 : S.2 (7 * (T : Int) + 1).toNat = I p1) (pb1 : ib p1) (sv2 : S.2 (7 * (T : Int) + 2).toNat = I p2) (pb2 : ib p2) (hJ : lJx T g y bs n) (hT : 7 * T + 7 ≤ S.1) (hS1 : S.1 ≤ 3584) (next : lNx S T Q) {w5 w6 : Option Value} : x_V S 138 432 [some (.ref 1), some (.ref 2), some (.ref 100), some (.ref 115), some (.int (I (7 * (T : Int)))), w5, w6] [] (x_vm g) n Q := by
  obtain ⟨hZ, hS, hI, hn1, hn2⟩ := hJ
  have hn : 116 ≤ n ∧ n < 640 := ⟨hn1, by omega⟩
  have hIc := hI.clr
  have hlen := hI.2.1.1
  have fin : ∀ (g2 : Nat → Nat → Int) (y2 : yS) (bs2 : List Int) (n2 : Nat) (k b : Int), zC g2 y2 bs2 → sC g2 y2 bs2 → yI (1 + 3 * ((T + 1 : Nat) : Int)) 2000 ((T + 1 : Nat) : Int) ((T + 1 : Nat) : Int) ((T + 1 : Nat) : Int) ((T + 1 : Nat) : Int) y2 → 116 ≤ n2 ∧ n2 ≤ 116 + (T + 1) → g2 100 0 = k → 0 ≤ k ∧ k ≤ 2 → (k = 0 → g2 115 0 = b) → x_V S 138 469 [some (.ref 1), some (.ref 2), some (.ref 100), some (.ref 115), some (.int (I (7 * (T : Int)))), some (.int (I k)), some (.int (I b))] [] (x_vm g2) n2 Q := fun g2 y2 bs2 n2 k b q1 q2 q3 q4 q5 q6 q7 => tl469 q5 q6 q7 (next g2 y2 bs2 n2 _ _ ⟨q1, q2, q3, q4.1, q4.2⟩)
  have up0 : yI (1 + 3 * ((T + 1 : Nat) : Int)) 2000 ((T + 1 : Nat) : Int) ((T + 1 : Nat) : Int) ((T + 1 : Nat) : Int) ((T + 1 : Nat) : Int) y := hI.up (by omega) (by omega) (by omega) (by omega) (by omega) (by omega)
  have upc : yI (1 + 3 * ((T + 1 : Nat) : Int)) 2000 ((T + 1 : Nat) : Int) ((T + 1 : Nat) : Int) ((T + 1 : Nat) : Int) ((T + 1 : Nat) : Int) (yclr y) := hIc.up (by omega) (by omega) (by omega) (by omega) (by omega) (by omega)
  have hB := hIc.B (by omega) (by omega) (by omega) (by omega)
  have hR := hI.2.2.1.2.2
  have hP := hIc.rP (by omega) (by omega)
  refine s138_432 rfl ?_
  refine s138_433 rfl ?_
  refine s138_434 rfl ?_
  refine s138_436 ?_
  refine s138_437 ?_
  refine v_sald d138_438 (by omega) (by omega) (by omega) ?_
  rw [sv1]
  refine s138_439 rfl ?_
  refine s138_440 rfl ?_
  refine s138_442 ?_
  refine s138_443 ?_
  refine v_sald d138_444 (by omega) (by omega) (by omega) ?_
  rw [sv2]
  refine s138_445 rfl ?_
  refine s138_446 rfl rfl (by simp) ?_
  refine c133 hZ hB hI.2.2.2.1 (by omega) pb1 pb2 hn (fun q => ?_) (fun q q2 => ?_) (fun q q2 g1 z1 f1 => ?_)
  · refine ⟨_, rfl, ?_⟩
    refine s138_449 ?_
    refine s138_451 rfl ?_
    refine s138_452 rfl ?_
    refine s138_453 rfl ?_
    refine s138_455 ?_
    refine s138_456 ?_
    refine v_sald d138_457 (by omega) (by omega) (by omega) ?_
    rw [sv1]
    refine s138_458 rfl ?_
    refine s138_459 rfl ?_
    refine s138_461 ?_
    refine s138_462 ?_
    refine v_sald d138_463 (by omega) (by omega) (by omega) ?_
    rw [sv2]
    refine s138_464 (by first | assumption | rfl) (by simp) ?_
    refine c123 hS hP hI.2.2.2.1 pb1 pb2 (fun r g2 z2 f2 t2 => ?_) (fun r r2 g2 z2 f2 t2 => ?_) (fun r r2 g2 z2 f2 t2 => ?_)
    · refine ⟨_, rfl, ?_⟩
      refine s138_467 ?_
      exact fin _ _ _ _ _ _ (f2.z hZ) z2 up0 ⟨by omega, by omega⟩ t2 (by omega) (fun q => absurd q (by omega))
    · exact absurd r (by omega)
    · exact absurd r (by omega)
  · refine ⟨_, rfl, ?_⟩
    refine s138_449 ?_
    refine s138_451 rfl ?_
    refine s138_452 rfl ?_
    refine s138_453 rfl ?_
    refine s138_455 ?_
    refine s138_456 ?_
    refine v_sald d138_457 (by omega) (by omega) (by omega) ?_
    rw [sv1]
    refine s138_458 rfl ?_
    refine s138_459 rfl ?_
    refine s138_461 ?_
    refine s138_462 ?_
    refine v_sald d138_463 (by omega) (by omega) (by omega) ?_
    rw [sv2]
    refine s138_464 (by first | assumption | rfl) (by simp) ?_
    refine c123 hS hP hI.2.2.2.1 pb1 pb2 (fun r g2 z2 f2 t2 => ?_) (fun r r2 g2 z2 f2 t2 => ?_) (fun r r2 g2 z2 f2 t2 => ?_)
    · exact absurd r (by omega)
    · refine ⟨_, rfl, ?_⟩
      refine s138_467 ?_
      exact fin _ _ _ _ _ _ (f2.z hZ) z2 up0 ⟨by omega, by omega⟩ t2 (by omega) (fun q => absurd q (by omega))
    · exact absurd r2 q2
  · refine ⟨_, rfl, ?_⟩
    refine s138_449 ?_
    refine s138_451 rfl ?_
    refine s138_452 rfl ?_
    refine s138_453 rfl ?_
    refine s138_455 ?_
    refine s138_456 ?_
    refine v_sald d138_457 (by omega) (by omega) (by omega) ?_
    rw [sv1]
    refine s138_458 rfl ?_
    refine s138_459 rfl ?_
    refine s138_461 ?_
    refine s138_462 ?_
    refine v_sald d138_463 (by omega) (by omega) (by omega) ?_
    rw [sv2]
    refine s138_464 (by first | assumption | rfl) (by simp) ?_
    refine c123 (zF.o hS f1) hP hI.2.2.2.1 pb1 pb2 (fun r g2 z2 f2 t2 => ?_) (fun r r2 g2 z2 f2 t2 => ?_) (fun r r2 g2 z2 f2 t2 => ?_)
    · exact absurd r (by omega)
    · exact absurd q2 r2
    · refine ⟨_, rfl, ?_⟩
      refine s138_467 ?_
      exact fin _ _ _ _ _ _ (f2.z z1.o) z2 ((hIc.fill (by omega) q q2 (yopen_w hI.2.2.2.1 q)).up (by omega) (by omega) (by omega) (by omega) (by omega) (by omega)) ⟨by omega, by omega⟩ t2 (by omega) (fun _ => f2.v)
theorem e8 {p1 : Int} (sv1 : S.2 (7 * (T : Int) + 1).toNat = I p1) (pb1 : ib p1) (hJ : lJx T g y bs n) (hT : 7 * T + 7 ≤ S.1) (hS1 : S.1 ≤ 3584) (next : lNx S T Q) {w5 w6 : Option Value} : x_V S 138 513 [some (.ref 1), some (.ref 2), some (.ref 100), some (.ref 115), some (.int (I (7 * (T : Int)))), w5, w6] [] (x_vm g) n Q := by
  obtain ⟨hZ, hS, hI, hn1, hn2⟩ := hJ
  have hn : 116 ≤ n ∧ n < 640 := ⟨hn1, by omega⟩
  have hIc := hI.clr
  have hlen := hI.2.1.1
  have fin : ∀ (g2 : Nat → Nat → Int) (y2 : yS) (bs2 : List Int) (n2 : Nat) (k b : Int), zC g2 y2 bs2 → sC g2 y2 bs2 → yI (1 + 3 * ((T + 1 : Nat) : Int)) 2000 ((T + 1 : Nat) : Int) ((T + 1 : Nat) : Int) ((T + 1 : Nat) : Int) ((T + 1 : Nat) : Int) y2 → 116 ≤ n2 ∧ n2 ≤ 116 + (T + 1) → g2 100 0 = k → 0 ≤ k ∧ k ≤ 2 → (k = 0 → g2 115 0 = b) → x_V S 138 538 [some (.ref 1), some (.ref 2), some (.ref 100), some (.ref 115), some (.int (I (7 * (T : Int)))), some (.int (I k)), some (.int (I b))] [] (x_vm g2) n2 Q := fun g2 y2 bs2 n2 k b q1 q2 q3 q4 q5 q6 q7 => tl538 q5 q6 q7 (next g2 y2 bs2 n2 _ _ ⟨q1, q2, q3, q4.1, q4.2⟩)
  have up0 : yI (1 + 3 * ((T + 1 : Nat) : Int)) 2000 ((T + 1 : Nat) : Int) ((T + 1 : Nat) : Int) ((T + 1 : Nat) : Int) ((T + 1 : Nat) : Int) y := hI.up (by omega) (by omega) (by omega) (by omega) (by omega) (by omega)
  have upc : yI (1 + 3 * ((T + 1 : Nat) : Int)) 2000 ((T + 1 : Nat) : Int) ((T + 1 : Nat) : Int) ((T + 1 : Nat) : Int) ((T + 1 : Nat) : Int) (yclr y) := hIc.up (by omega) (by omega) (by omega) (by omega) (by omega) (by omega)
  refine s138_513 rfl ?_
  refine s138_514 rfl ?_
  refine s138_515 rfl ?_
  refine s138_517 ?_
  refine s138_518 ?_
  refine v_sald d138_519 (by omega) (by omega) (by omega) ?_
  rw [sv1]
  refine s138_520 rfl ?_
  refine s138_521 rfl rfl (by simp) ?_
  refine c134 hZ pb1 (by omega) hI.ok hn (fun q => ?_) (fun q g1 z1 f1 => ?_)
  · refine ⟨_, rfl, ?_⟩
    refine s138_524 ?_
    refine s138_526 rfl ?_
    refine s138_527 rfl ?_
    refine s138_528 rfl ?_
    refine s138_530 ?_
    refine s138_531 ?_
    refine v_sald d138_532 (by omega) (by omega) (by omega) ?_
    rw [sv1]
    refine s138_533 (by first | assumption | rfl) (by simp) ?_
    refine c125 hS pb1 (by omega) (fun r g2 z2 f2 t2 => ?_) (fun r g2 z2 f2 t2 => ?_)
    · refine ⟨_, rfl, ?_⟩
      refine s138_536 ?_
      exact fin _ _ _ _ _ _ (f2.z hZ) z2 up0 ⟨by omega, by omega⟩ t2 (by omega) (fun q => absurd q (by omega))
    · exact absurd r q
  · refine ⟨_, rfl, ?_⟩
    refine s138_524 ?_
    refine s138_526 rfl ?_
    refine s138_527 rfl ?_
    refine s138_528 rfl ?_
    refine s138_530 ?_
    refine s138_531 ?_
    refine v_sald d138_532 (by omega) (by omega) (by omega) ?_
    rw [sv1]
    refine s138_533 (by first | assumption | rfl) (by simp) ?_
    refine c125 (zF.o hS f1) pb1 (by omega) (fun r g2 z2 f2 t2 => ?_) (fun r g2 z2 f2 t2 => ?_)
    · exact absurd q r
    · refine ⟨_, rfl, ?_⟩
      refine s138_536 ?_
      exact fin _ _ _ _ _ _ (f2.z z1.o) z2 up0 ⟨by omega, by omega⟩ t2 (by omega) (fun _ => f2.v)
theorem e9 {p1 p2 : Int} (sv1 : S.2 (7 * (T : Int) + 1).toNat = I p1) (pb1 : ib p1) (sv2 : S.2 (7 * (T : Int) + 2).toNat = I p2) (pb2 : ib p2) (hJ : lJx T g y bs n) (hT : 7 * T + 7 ≤ S.1) (hS1 : S.1 ≤ 3584) (next : lNx S T Q) {w5 w6 : Option Value} : x_V S 138 569 [some (.ref 1), some (.ref 2), some (.ref 100), some (.ref 115), some (.int (I (7 * (T : Int)))), w5, w6] [] (x_vm g) n Q := by
  obtain ⟨hZ, hS, hI, hn1, hn2⟩ := hJ
  have hn : 116 ≤ n ∧ n < 640 := ⟨hn1, by omega⟩
  have hIc := hI.clr
  have hlen := hI.2.1.1
  have fin : ∀ (g2 : Nat → Nat → Int) (y2 : yS) (bs2 : List Int) (n2 : Nat) (k b : Int), zC g2 y2 bs2 → sC g2 y2 bs2 → yI (1 + 3 * ((T + 1 : Nat) : Int)) 2000 ((T + 1 : Nat) : Int) ((T + 1 : Nat) : Int) ((T + 1 : Nat) : Int) ((T + 1 : Nat) : Int) y2 → 116 ≤ n2 ∧ n2 ≤ 116 + (T + 1) → g2 100 0 = k → 0 ≤ k ∧ k ≤ 2 → (k = 0 → g2 115 0 = b) → x_V S 138 606 [some (.ref 1), some (.ref 2), some (.ref 100), some (.ref 115), some (.int (I (7 * (T : Int)))), some (.int (I k)), some (.int (I b))] [] (x_vm g2) n2 Q := fun g2 y2 bs2 n2 k b q1 q2 q3 q4 q5 q6 q7 => tl606 q5 q6 q7 (next g2 y2 bs2 n2 _ _ ⟨q1, q2, q3, q4.1, q4.2⟩)
  have up0 : yI (1 + 3 * ((T + 1 : Nat) : Int)) 2000 ((T + 1 : Nat) : Int) ((T + 1 : Nat) : Int) ((T + 1 : Nat) : Int) ((T + 1 : Nat) : Int) y := hI.up (by omega) (by omega) (by omega) (by omega) (by omega) (by omega)
  have upc : yI (1 + 3 * ((T + 1 : Nat) : Int)) 2000 ((T + 1 : Nat) : Int) ((T + 1 : Nat) : Int) ((T + 1 : Nat) : Int) ((T + 1 : Nat) : Int) (yclr y) := hIc.up (by omega) (by omega) (by omega) (by omega) (by omega) (by omega)
  refine s138_569 rfl ?_
  refine s138_570 rfl ?_
  refine s138_571 rfl ?_
  refine s138_573 ?_
  refine s138_574 ?_
  refine v_sald d138_575 (by omega) (by omega) (by omega) ?_
  rw [sv1]
  refine s138_576 rfl ?_
  refine s138_577 rfl ?_
  refine s138_579 ?_
  refine s138_580 ?_
  refine v_sald d138_581 (by omega) (by omega) (by omega) ?_
  rw [sv2]
  refine s138_582 rfl ?_
  refine s138_583 rfl rfl (by simp) ?_
  refine c135 hZ pb1 pb2 (by omega) hI.ok hn (fun q g1 z1 f1 => ?_) (fun q g1 z1 f1 => ?_)
  · refine ⟨_, rfl, ?_⟩
    refine s138_586 ?_
    refine s138_588 rfl ?_
    refine s138_589 rfl ?_
    refine s138_590 rfl ?_
    refine s138_592 ?_
    refine s138_593 ?_
    refine v_sald d138_594 (by omega) (by omega) (by omega) ?_
    rw [sv1]
    refine s138_595 rfl ?_
    refine s138_596 rfl ?_
    refine s138_598 ?_
    refine s138_599 ?_
    refine v_sald d138_600 (by omega) (by omega) (by omega) ?_
    rw [sv2]
    refine s138_601 (by first | assumption | rfl) (by simp) ?_
    refine c126 (hS.lo (fun a i q1 q2 => f1 a i q1)) pb1 pb2 (by omega) (fun r g2 z2 f2 t2 => ?_) (fun r g2 z2 f2 t2 => ?_)
    · refine ⟨_, rfl, ?_⟩
      refine s138_604 ?_
      exact fin _ _ _ _ _ _ (f2.z z1) z2 up0 ⟨by omega, by omega⟩ t2 (by omega) (fun q => absurd q (by omega))
    · exact absurd r q
  · refine ⟨_, rfl, ?_⟩
    refine s138_586 ?_
    refine s138_588 rfl ?_
    refine s138_589 rfl ?_
    refine s138_590 rfl ?_
    refine s138_592 ?_
    refine s138_593 ?_
    refine v_sald d138_594 (by omega) (by omega) (by omega) ?_
    rw [sv1]
    refine s138_595 rfl ?_
    refine s138_596 rfl ?_
    refine s138_598 ?_
    refine s138_599 ?_
    refine v_sald d138_600 (by omega) (by omega) (by omega) ?_
    rw [sv2]
    refine s138_601 (by first | assumption | rfl) (by simp) ?_
    refine c126 (zF.o hS f1) pb1 pb2 (by omega) (fun r g2 z2 f2 t2 => ?_) (fun r g2 z2 f2 t2 => ?_)
    · exact absurd q r
    · refine ⟨_, rfl, ?_⟩
      refine s138_604 ?_
      exact fin _ _ _ _ _ _ (f2.z z1.o) z2 up0 ⟨by omega, by omega⟩ t2 (by omega) (fun _ => f2.v)
theorem e10 {p1 : Int} (sv1 : S.2 (7 * (T : Int) + 1).toNat = I p1) (pb1 : ib p1) (hJ : lJx T g y bs n) (hT : 7 * T + 7 ≤ S.1) (hS1 : S.1 ≤ 3584) (next : lNx S T Q) {w5 w6 : Option Value} : x_V S 138 637 [some (.ref 1), some (.ref 2), some (.ref 100), some (.ref 115), some (.int (I (7 * (T : Int)))), w5, w6] [] (x_vm g) n Q := by
  obtain ⟨hZ, hS, hI, hn1, hn2⟩ := hJ
  have hn : 116 ≤ n ∧ n < 640 := ⟨hn1, by omega⟩
  have hIc := hI.clr
  have hlen := hI.2.1.1
  have fin : ∀ (g2 : Nat → Nat → Int) (y2 : yS) (bs2 : List Int) (n2 : Nat) (k b : Int), zC g2 y2 bs2 → sC g2 y2 bs2 → yI (1 + 3 * ((T + 1 : Nat) : Int)) 2000 ((T + 1 : Nat) : Int) ((T + 1 : Nat) : Int) ((T + 1 : Nat) : Int) ((T + 1 : Nat) : Int) y2 → 116 ≤ n2 ∧ n2 ≤ 116 + (T + 1) → g2 100 0 = k → 0 ≤ k ∧ k ≤ 2 → (k = 0 → g2 115 0 = b) → x_V S 138 662 [some (.ref 1), some (.ref 2), some (.ref 100), some (.ref 115), some (.int (I (7 * (T : Int)))), some (.int (I k)), some (.int (I b))] [] (x_vm g2) n2 Q := fun g2 y2 bs2 n2 k b q1 q2 q3 q4 q5 q6 q7 => tl662 q5 q6 q7 (next g2 y2 bs2 n2 _ _ ⟨q1, q2, q3, q4.1, q4.2⟩)
  have up0 : yI (1 + 3 * ((T + 1 : Nat) : Int)) 2000 ((T + 1 : Nat) : Int) ((T + 1 : Nat) : Int) ((T + 1 : Nat) : Int) ((T + 1 : Nat) : Int) y := hI.up (by omega) (by omega) (by omega) (by omega) (by omega) (by omega)
  have upc : yI (1 + 3 * ((T + 1 : Nat) : Int)) 2000 ((T + 1 : Nat) : Int) ((T + 1 : Nat) : Int) ((T + 1 : Nat) : Int) ((T + 1 : Nat) : Int) (yclr y) := hIc.up (by omega) (by omega) (by omega) (by omega) (by omega) (by omega)
  have hB := hIc.B (by omega) (by omega) (by omega) (by omega)
  have h6 := hI.1.2.2.2.2.1
  refine s138_637 rfl ?_
  refine s138_638 rfl ?_
  refine s138_639 rfl ?_
  refine s138_641 ?_
  refine s138_642 ?_
  refine v_sald d138_643 (by omega) (by omega) (by omega) ?_
  rw [sv1]
  refine s138_644 rfl ?_
  refine s138_645 rfl rfl (by simp) ?_
  refine c136 hZ hB pb1 hn (fun q => ?_) (fun q => ?_)
  · refine ⟨_, rfl, ?_⟩
    refine s138_648 ?_
    refine s138_650 rfl ?_
    refine s138_651 rfl ?_
    refine s138_652 rfl ?_
    refine s138_654 ?_
    refine s138_655 ?_
    refine v_sald d138_656 (by omega) (by omega) (by omega) ?_
    rw [sv1]
    refine s138_657 (by first | assumption | rfl) (by simp) ?_
    refine c127 hS pb1 h6 (fun r g2 z2 f2 t2 => ?_) (fun r g2 z2 f2 t2 => ?_)
    · refine ⟨_, rfl, ?_⟩
      refine s138_660 ?_
      exact fin _ _ _ _ _ _ (f2.z hZ) z2 up0 ⟨by omega, by omega⟩ t2 (by omega) (fun q => absurd q (by omega))
    · exact absurd r q
  · refine ⟨_, rfl, ?_⟩
    refine s138_648 ?_
    refine s138_650 rfl ?_
    refine s138_651 rfl ?_
    refine s138_652 rfl ?_
    refine s138_654 ?_
    refine s138_655 ?_
    refine v_sald d138_656 (by omega) (by omega) (by omega) ?_
    rw [sv1]
    refine s138_657 (by first | assumption | rfl) (by simp) ?_
    refine c127 (zF.o hS zF.rf) pb1 h6 (fun r g2 z2 f2 t2 => ?_) (fun r g2 z2 f2 t2 => ?_)
    · exact absurd q r
    · refine ⟨_, rfl, ?_⟩
      refine s138_660 ?_
      exact fin _ _ _ _ _ _ (f2.z hZ.o) z2 up0 ⟨by omega, by omega⟩ t2 (by omega) (fun _ => f2.v)
theorem e11 {p1 p2 : Int} (sv1 : S.2 (7 * (T : Int) + 1).toNat = I p1) (pb1 : ib p1) (sv2 : S.2 (7 * (T : Int) + 2).toNat = I p2) (pb2 : ib p2) (hJ : lJx T g y bs n) (hT : 7 * T + 7 ≤ S.1) (hS1 : S.1 ≤ 3584) (next : lNx S T Q) {w5 w6 : Option Value} : x_V S 138 693 [some (.ref 1), some (.ref 2), some (.ref 100), some (.ref 115), some (.int (I (7 * (T : Int)))), w5, w6] [] (x_vm g) n Q := by
  obtain ⟨hZ, hS, hI, hn1, hn2⟩ := hJ
  have hn : 116 ≤ n ∧ n < 640 := ⟨hn1, by omega⟩
  have hIc := hI.clr
  have hlen := hI.2.1.1
  have fin : ∀ (g2 : Nat → Nat → Int) (y2 : yS) (bs2 : List Int) (n2 : Nat) (k b : Int), zC g2 y2 bs2 → sC g2 y2 bs2 → yI (1 + 3 * ((T + 1 : Nat) : Int)) 2000 ((T + 1 : Nat) : Int) ((T + 1 : Nat) : Int) ((T + 1 : Nat) : Int) ((T + 1 : Nat) : Int) y2 → 116 ≤ n2 ∧ n2 ≤ 116 + (T + 1) → g2 100 0 = k → 0 ≤ k ∧ k ≤ 2 → (k = 0 → g2 115 0 = b) → x_V S 138 730 [some (.ref 1), some (.ref 2), some (.ref 100), some (.ref 115), some (.int (I (7 * (T : Int)))), some (.int (I k)), some (.int (I b))] [] (x_vm g2) n2 Q := fun g2 y2 bs2 n2 k b q1 q2 q3 q4 q5 q6 q7 => tl730 q5 q6 q7 (next g2 y2 bs2 n2 _ _ ⟨q1, q2, q3, q4.1, q4.2⟩)
  have up0 : yI (1 + 3 * ((T + 1 : Nat) : Int)) 2000 ((T + 1 : Nat) : Int) ((T + 1 : Nat) : Int) ((T + 1 : Nat) : Int) ((T + 1 : Nat) : Int) y := hI.up (by omega) (by omega) (by omega) (by omega) (by omega) (by omega)
  have upc : yI (1 + 3 * ((T + 1 : Nat) : Int)) 2000 ((T + 1 : Nat) : Int) ((T + 1 : Nat) : Int) ((T + 1 : Nat) : Int) ((T + 1 : Nat) : Int) (yclr y) := hIc.up (by omega) (by omega) (by omega) (by omega) (by omega) (by omega)
  refine s138_693 rfl ?_
  refine s138_694 rfl ?_
  refine s138_695 rfl ?_
  refine s138_697 ?_
  refine s138_698 ?_
  refine v_sald d138_699 (by omega) (by omega) (by omega) ?_
  rw [sv1]
  refine s138_700 rfl ?_
  refine s138_701 rfl ?_
  refine s138_703 ?_
  refine s138_704 ?_
  refine v_sald d138_705 (by omega) (by omega) (by omega) ?_
  rw [sv2]
  refine s138_706 rfl ?_
  refine s138_707 rfl rfl (by simp) ?_
  refine c137 hZ hI.2.2.2.1 pb1 pb2 hn (fun q => ?_) (fun q q2 => ?_) (fun q q2 => ?_)
  · refine ⟨_, rfl, ?_⟩
    refine s138_710 ?_
    refine s138_712 rfl ?_
    refine s138_713 rfl ?_
    refine s138_714 rfl ?_
    refine s138_716 ?_
    refine s138_717 ?_
    refine v_sald d138_718 (by omega) (by omega) (by omega) ?_
    rw [sv1]
    refine s138_719 rfl ?_
    refine s138_720 rfl ?_
    refine s138_722 ?_
    refine s138_723 ?_
    refine v_sald d138_724 (by omega) (by omega) (by omega) ?_
    rw [sv2]
    refine s138_725 (by first | assumption | rfl) (by simp) ?_
    refine c128 hS hI.2.2.2.1 pb1 pb2 (fun r g2 z2 f2 t2 => ?_) (fun r r2 g2 z2 f2 t2 => ?_) (fun r r2 g2 z2 f2 t2 => ?_)
    · refine ⟨_, rfl, ?_⟩
      refine s138_728 ?_
      exact fin _ _ _ _ _ _ (f2.z hZ) z2 up0 ⟨by omega, by omega⟩ t2 (by omega) (fun q => absurd q (by omega))
    · exact absurd r (by omega)
    · exact absurd r (by omega)
  · refine ⟨_, rfl, ?_⟩
    refine s138_710 ?_
    refine s138_712 rfl ?_
    refine s138_713 rfl ?_
    refine s138_714 rfl ?_
    refine s138_716 ?_
    refine s138_717 ?_
    refine v_sald d138_718 (by omega) (by omega) (by omega) ?_
    rw [sv1]
    refine s138_719 rfl ?_
    refine s138_720 rfl ?_
    refine s138_722 ?_
    refine s138_723 ?_
    refine v_sald d138_724 (by omega) (by omega) (by omega) ?_
    rw [sv2]
    refine s138_725 (by first | assumption | rfl) (by simp) ?_
    refine c128 hS hI.2.2.2.1 pb1 pb2 (fun r g2 z2 f2 t2 => ?_) (fun r r2 g2 z2 f2 t2 => ?_) (fun r r2 g2 z2 f2 t2 => ?_)
    · exact absurd r (by omega)
    · refine ⟨_, rfl, ?_⟩
      refine s138_728 ?_
      exact fin _ _ _ _ _ _ (f2.z hZ) z2 up0 ⟨by omega, by omega⟩ t2 (by omega) (fun q => absurd q (by omega))
    · exact absurd r2 q2
  · refine ⟨_, rfl, ?_⟩
    refine s138_710 ?_
    refine s138_712 rfl ?_
    refine s138_713 rfl ?_
    refine s138_714 rfl ?_
    refine s138_716 ?_
    refine s138_717 ?_
    refine v_sald d138_718 (by omega) (by omega) (by omega) ?_
    rw [sv1]
    refine s138_719 rfl ?_
    refine s138_720 rfl ?_
    refine s138_722 ?_
    refine s138_723 ?_
    refine v_sald d138_724 (by omega) (by omega) (by omega) ?_
    rw [sv2]
    refine s138_725 (by first | assumption | rfl) (by simp) ?_
    refine c128 (zF.o hS zF.rf) hI.2.2.2.1 pb1 pb2 (fun r g2 z2 f2 t2 => ?_) (fun r r2 g2 z2 f2 t2 => ?_) (fun r r2 g2 z2 f2 t2 => ?_)
    · exact absurd r (by omega)
    · exact absurd q2 r2
    · refine ⟨_, rfl, ?_⟩
      refine s138_728 ?_
      exact fin _ _ _ _ _ _ (f2.z hZ.o) z2 up0 ⟨by omega, by omega⟩ t2 (by omega) (fun _ => f2.v)
end LW
