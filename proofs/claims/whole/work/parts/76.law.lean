/-! 76.law: the law's helpers: they catch what the class throws. -/
section LW
variable {S : Nat × (Nat → Int32)} {μ : xM} {g : Nat → Nat → Int} {n : Nat} {Q : xQ} {y : yS} {B : Int} {bs : List Int}
theorem zC.hi {g' : Nat → Nat → Int} (h : zC g y bs) (e : ∀ a i, a < 100 → g' a i = g a i) : zC g' y bs := by
  obtain ⟨⟨h1, h2, h3, h4, h5⟩, ⟨k1, k2, k3⟩, k4, k5, k6⟩ := h
  exact ⟨⟨fun j q1 q2 => by rw [e _ _ (by omega)]; exact h1 j q1 q2, h2.eq (fun a i q1 q2 _ _ => e a i (by omega)), h3.eq (fun a i q => e a i (by omega)), h4.eq (e _ _ (by omega)) (fun a i q1 q2 => e a i (by omega)), h5.eq (e _ _ (by omega)) (fun i => e _ _ (by omega))⟩, ⟨by rw [e _ _ (by omega)]; exact k1, k2, fun i hi => by rw [e _ _ (by omega)]; exact k3 i hi⟩, fun j hj => by rw [e _ _ (by omega)]; exact k4 j hj, fun j hj => by rw [e _ _ (by omega)]; exact k5 j hj, fun j hj => by rw [e _ _ (by omega)]; exact k6 j hj⟩
theorem sC.lo {g' : Nat → Nat → Int} (h : sC g y bs) (e : ∀ a i, 100 ≤ a → a < 115 → g' a i = g a i) : sC g' y bs := by
  obtain ⟨⟨h1, h2, h3, h4, h5⟩, hI⟩ := h
  exact ⟨⟨fun j q1 q2 => by rw [e _ _ (by omega) (by omega)]; exact h1 j q1 q2, h2.eq (e _ _ (by omega) (by omega)) (fun a i q => e a i (by omega) (by omega)), h3.eq (fun a i q => e a i (by omega) (by omega)), h4.eq (e _ _ (by omega) (by omega)) (fun a i q => e a i (by omega) (by omega)), h5.eq (e _ _ (by omega) (by omega)) (fun i => e _ _ (by omega) (by omega))⟩, hI.eq (fun i q => e _ _ (by omega) (by omega)) (fun i => e _ _ (by omega) (by omega))⟩
theorem c129 {t m d a b c : Int} (hZ : zC g y bs) (ht : ib t) (hm : ib m) (ha : ib a) (hb : ib b) (hc : ib c) (hd : d = 0 ∨ d = 1) (hn : 116 ≤ n ∧ n < 640)
    (hT : ¬ (x_peer t ∧ (0 ≤ m ∧ m ≤ 999999) ∧ (0 ≤ a ∧ a ≤ 999999) ∧ (0 ≤ b ∧ b ≤ 999999) ∧ (0 ≤ c ∧ c ≤ 999999)) → Q (.inl (some (.int (I 1)))) (x_vm g) (n + 1))
    (hR : (x_peer t ∧ (0 ≤ m ∧ m ≤ 999999) ∧ (0 ≤ a ∧ a ≤ 999999) ∧ (0 ≤ b ∧ b ≤ 999999) ∧ (0 ≤ c ∧ c ≤ 999999)) → ∀ g', zC g' (yclr y) (yfr (t, m, d, (if t = 48 ∧ a = 0 then -1 else a), b, c, 0)) → zF g g' → Q (.inl (some (.int (I 0)))) (x_vm (x_uf g' 115 0 (yfr (t, m, d, (if t = 48 ∧ a = 0 then -1 else a), b, c, 0)).length)) n) : x_V S 129 0 [some (.ref 2), some (.int (I t)), some (.int (I m)), some (.int (I d)), some (.int (I a)), some (.int (I b)), some (.int (I c)), some (.ref 115), none] [] (x_vm g) n Q := by
  refine s129_0 rfl ?_
  refine s129_2 ?_
  refine s129_3 rfl ?_
  refine s129_4 rfl ?_
  refine s129_5 rfl ?_
  refine s129_6 rfl ?_
  refine s129_7 rfl ?_
  refine s129_9 rfl ?_
  refine s129_11 rfl ?_
  refine s129_13 (by first | assumption | rfl) (by simp) ?_
  refine c70 hZ ht hm ha hb hc hd hn (fun q => ?_) (fun q g1 z f => ?_)
  · refine ⟨21, ⟨rfl, by decide, _, w289, Or.inl ⟨w308, rfl⟩⟩, ?_⟩
    refine s129_21 ?_
    refine s129_23 ?_
    refine s129_24 (st := []) ?_
    exact hT q
  · show x_V S 129 16 _ (.int _ :: _) _ _ _
    refine s129_16 ?_
    refine v_last d129_17 rfl rfl ?_
    refine s129_18 ?_
    refine s129_25 ?_
    refine s129_26 (st := []) ?_
    exact hR q g1 z f
theorem c130 {i x : Int} (hZ : zC g y bs) (hi : ib i) (hx : ib x) (hn : 116 ≤ n ∧ n < 640)
    (hT : ¬ (0 ≤ i ∧ i < bs.length) → Q (.inl (some (.int (I 1)))) (x_vm g) (n + 1)) (hU : (0 ≤ i ∧ i < bs.length) → ¬ (1 ≤ x ∧ x ≤ 127) → Q (.inl (some (.int (I 2)))) (x_vm g) (n + 1))
    (hR : (0 ≤ i ∧ i < bs.length) → (1 ≤ x ∧ x ≤ 127) → ∀ g', zC g' (yclr y) (bs.set i.toNat (zx (bs.getD i.toNat 0) x)) → zF g g' → Q (.inl (some (.int (I 0)))) (x_vm (x_uf g' 115 0 (zx (bs.getD i.toNat 0) x))) n) : x_V S 130 0 [some (.ref 2), some (.int (I i)), some (.int (I x)), some (.ref 115), none] [] (x_vm g) n Q := by
  refine s130_0 rfl ?_
  refine s130_1 ?_
  refine s130_2 rfl ?_
  refine s130_3 rfl ?_
  refine s130_4 rfl ?_
  refine s130_5 (by first | assumption | rfl) (by simp) ?_
  refine c71 hZ hi hx hn (fun q => ?_) (fun q q2 => ?_) (fun q q2 g1 z f => ?_)
  · refine ⟨13, ⟨rfl, by decide, _, w430, Or.inl ⟨w438, rfl⟩⟩, ?_⟩
    refine s130_13 ?_
    refine s130_15 ?_
    refine s130_16 (st := []) ?_
    exact hT q
  · refine ⟨17, ⟨rfl, by decide, _, w430, Or.inr ⟨by decide, rfl, by decide, _, w289, Or.inl ⟨w308, rfl⟩⟩⟩, ?_⟩
    refine s130_17 ?_
    refine s130_19 ?_
    refine s130_20 (st := []) ?_
    exact hU q q2
  · show x_V S 130 8 _ (.int _ :: _) _ _ _
    refine s130_8 ?_
    refine v_last d130_9 rfl rfl ?_
    refine s130_10 ?_
    refine s130_21 ?_
    refine s130_22 (st := []) ?_
    exact hR q q2 g1 z f
theorem c131 {x : Int} (hZ : zC g y bs) (hx : ib x) (hn : 116 ≤ n ∧ n < 640)
    (hT : ¬ (0 ≤ x ∧ x ≤ 127) → Q (.inl (some (.int (I 1)))) (x_vm g) (n + 1)) (hU : (0 ≤ x ∧ x ≤ 127) → 120 ≤ bs.length → Q (.inl (some (.int (I 2)))) (x_vm g) (n + 1))
    (hR : (0 ≤ x ∧ x ≤ 127) → bs.length < 120 → ∀ g', zC g' (yclr y) (bs ++ [x]) → zF g g' → Q (.inl (some (.int (I 0)))) (x_vm (x_uf g' 115 0 (bs.length + 1))) n) : x_V S 131 0 [some (.ref 2), some (.int (I x)), some (.ref 115), none] [] (x_vm g) n Q := by
  refine s131_0 rfl ?_
  refine s131_1 ?_
  refine s131_2 rfl ?_
  refine s131_3 rfl ?_
  refine s131_4 (by first | assumption | rfl) (by simp) ?_
  refine c72 hZ hx hn (fun q => ?_) (fun q q2 => ?_) (fun q q2 g1 z f => ?_)
  · refine ⟨12, ⟨rfl, by decide, _, w289, Or.inl ⟨w308, rfl⟩⟩, ?_⟩
    refine s131_12 ?_
    refine s131_13 ?_
    refine s131_14 (st := []) ?_
    exact hT q
  · refine ⟨15, ⟨rfl, by decide, _, w289, Or.inr ⟨by decide, rfl, by decide, _, w459, Or.inl ⟨w470, rfl⟩⟩⟩, ?_⟩
    refine s131_15 ?_
    refine s131_16 ?_
    refine s131_17 (st := []) ?_
    exact hU q q2
  · show x_V S 131 7 _ (.int _ :: _) _ _ _
    refine s131_7 ?_
    refine v_last d131_8 rfl rfl ?_
    refine s131_9 ?_
    refine s131_18 ?_
    refine s131_19 (st := []) ?_
    exact hR q q2 g1 z f
theorem c132 (hZ : zC g y bs) (hB : yB B (yclr y)) (hB1 : 1 ≤ B) (hB2 : B + 1300 ≤ 100000000) (hN : yN y) (hO : yO y) (hu : y.2.2.2.2.length < 512) (hl : y.2.2.1.length < 512) (hn : 116 ≤ n ∧ n < 640)
    (hT : bs = [] → Q (.inl (some (.int (I 1)))) (x_vm g) (n + 1))
    (hG : bs ≠ [] → zscan (zfb bs) bs.length (g 7) = none → ∀ g', zC g' (yclr y) [] → zF g g' → Q (.inl (some (.int (I 0)))) (x_vm (x_uf g' 115 0 0)) n)
    (hR : bs ≠ [] → ∀ t m d w, zscan (zfb bs) bs.length (g 7) = some (t, m, d, w) → yHB t m d (w 0) (w 1) (w 2) → ∀ g', zC g' (yrecv (yclr y) t m d (w 0) (w 1) (w 2)).2 [] → zF g g' → Q (.inl (some (.int (I 0)))) (x_vm (x_uf g' 115 0 (yrecv (yclr y) t m d (w 0) (w 1) (w 2)).1)) n) : x_V S 132 0 [some (.ref 2), some (.ref 115), none] [] (x_vm g) n Q := by
  refine s132_0 rfl ?_
  refine s132_1 ?_
  refine s132_2 rfl ?_
  refine s132_3 (by first | assumption | rfl) (by simp) ?_
  refine c73 hZ hB hB1 hB2 hN hO hu hl hn (fun q => ?_) (fun q q2 g1 z f => ?_) (fun q t m d w q2 q3 g1 z f => ?_)
  · refine ⟨11, ⟨rfl, by decide, _, w459, Or.inl ⟨w470, rfl⟩⟩, ?_⟩
    refine s132_11 ?_
    refine s132_12 ?_
    refine s132_13 (st := []) ?_
    exact hT q
  · show x_V S 132 6 _ (.int _ :: _) _ _ _
    refine s132_6 ?_
    refine v_last d132_7 rfl rfl ?_
    refine s132_8 ?_
    refine s132_14 ?_
    refine s132_15 (st := []) ?_
    exact hG q q2 g1 z f
  · show x_V S 132 6 _ (.int _ :: _) _ _ _
    refine s132_6 ?_
    refine v_last d132_7 rfl rfl ?_
    refine s132_8 ?_
    refine s132_14 ?_
    refine s132_15 (st := []) ?_
    exact hR q t m d w q2 q3 g1 z f
theorem c133 {w q : Int} (hZ : zC g y bs) (hB : yB B (yclr y)) (hO : yO y) (hl : y.2.2.1.length < 512) (hw : ib w) (hq : ib q) (hn : 116 ≤ n ∧ n < 640)
    (hT : yopen y.2.2.2.1 w = y.2.2.2.1.length → Q (.inl (some (.int (I 1)))) (x_vm g) (n + 1))
    (hU : yopen y.2.2.2.1 w < y.2.2.2.1.length → ¬ (1 ≤ q ∧ q ≤ (y.2.2.2.1.getD (yopen y.2.2.2.1 w) yE).2.2.1 - (y.2.2.2.1.getD (yopen y.2.2.2.1 w) yE).2.2.2.1) → Q (.inl (some (.int (I 2)))) (x_vm g) (n + 1))
    (hR : yopen y.2.2.2.1 w < y.2.2.2.1.length → (1 ≤ q ∧ q ≤ (y.2.2.2.1.getD (yopen y.2.2.2.1 w) yE).2.2.1 - (y.2.2.2.1.getD (yopen y.2.2.2.1 w) yE).2.2.2.1) → ∀ g', zC g' (yfill (yclr y) w q) bs → zF g g' → Q (.inl (some (.int (I 0)))) (x_vm (x_uf g' 115 0 ((y.2.2.2.1.getD (yopen y.2.2.2.1 w) yE).2.2.2.1 + q))) n) : x_V S 133 0 [some (.ref 2), some (.int (I w)), some (.int (I q)), some (.ref 115), none] [] (x_vm g) n Q := by
  refine s133_0 rfl ?_
  refine s133_1 ?_
  refine s133_2 rfl ?_
  refine s133_3 rfl ?_
  refine s133_4 rfl ?_
  refine s133_5 (by first | assumption | rfl) (by simp) ?_
  refine c76 hZ hB hO hl hw hq hn (fun q => ?_) (fun q q2 => ?_) (fun q q2 g1 z f => ?_)
  · refine ⟨13, ⟨rfl, by decide, _, w626, Or.inl ⟨w634, rfl⟩⟩, ?_⟩
    refine s133_13 ?_
    refine s133_15 ?_
    refine s133_16 (st := []) ?_
    exact hT q
  · refine ⟨17, ⟨rfl, by decide, _, w626, Or.inr ⟨by decide, rfl, by decide, _, w289, Or.inl ⟨w308, rfl⟩⟩⟩, ?_⟩
    refine s133_17 ?_
    refine s133_19 ?_
    refine s133_20 (st := []) ?_
    exact hU q q2
  · show x_V S 133 8 _ (.int _ :: _) _ _ _
    refine s133_8 ?_
    refine v_last d133_9 rfl rfl ?_
    refine s133_10 ?_
    refine s133_21 ?_
    refine s133_22 (st := []) ?_
    exact hR q q2 g1 z f
theorem c134 {k : Int} (hZ : zC g y bs) (hk : ib k) (hlen : y.2.1.length ≤ 100000000) (hok : ∀ k, k < y.2.1.length → k < 20 → yfok (y.2.1.getD k yD)) (hn : 116 ≤ n ∧ n < 640)
    (hT : ¬ (0 ≤ k ∧ k < y.2.1.length ∧ k < 20) → Q (.inl (some (.int (I 1)))) (x_vm g) (n + 1))
    (hR : (0 ≤ k ∧ k < y.2.1.length ∧ k < 20) → ∀ g', zC g' y bs → zF g g' → Q (.inl (some (.int (I 0)))) (x_vm (x_uf g' 115 0 (yfr (y.2.1.getD k.toNat yD)).length)) n) : x_V S 134 0 [some (.ref 2), some (.int (I k)), some (.ref 115), none] [] (x_vm g) n Q := by
  refine s134_0 rfl ?_
  refine s134_1 ?_
  refine s134_2 rfl ?_
  refine s134_3 rfl ?_
  refine s134_4 (by first | assumption | rfl) (by simp) ?_
  refine c78 hZ hk hlen hok hn (fun q => ?_) (fun q g1 z f => ?_)
  · refine ⟨12, ⟨rfl, by decide, _, w430, Or.inl ⟨w438, rfl⟩⟩, ?_⟩
    refine s134_12 ?_
    refine s134_13 ?_
    refine s134_14 (st := []) ?_
    exact hT q
  · show x_V S 134 7 _ (.int _ :: _) _ _ _
    refine s134_7 ?_
    refine v_last d134_8 rfl rfl ?_
    refine s134_9 ?_
    refine s134_15 ?_
    refine s134_16 (st := []) ?_
    exact hR q g1 z f
theorem c135 {k i : Int} (hZ : zC g y bs) (hk : ib k) (hi : ib i) (hlen : y.2.1.length ≤ 100000000) (hok : ∀ k, k < y.2.1.length → k < 20 → yfok (y.2.1.getD k yD)) (hn : 116 ≤ n ∧ n < 640)
    (hT : ¬ ((0 ≤ k ∧ k < y.2.1.length ∧ k < 20) ∧ 0 ≤ i ∧ i < (yfr (y.2.1.getD k.toNat yD)).length) → ∀ g', zC g' y bs → zF g g' → Q (.inl (some (.int (I 1)))) (x_vm g') (n + 1))
    (hR : ((0 ≤ k ∧ k < y.2.1.length ∧ k < 20) ∧ 0 ≤ i ∧ i < (yfr (y.2.1.getD k.toNat yD)).length) → ∀ g', zC g' y bs → zF g g' → Q (.inl (some (.int (I 0)))) (x_vm (x_uf g' 115 0 ((yfr (y.2.1.getD k.toNat yD)).getD i.toNat 0))) n) : x_V S 135 0 [some (.ref 2), some (.int (I k)), some (.int (I i)), some (.ref 115), none] [] (x_vm g) n Q := by
  refine s135_0 rfl ?_
  refine s135_1 ?_
  refine s135_2 rfl ?_
  refine s135_3 rfl ?_
  refine s135_4 rfl ?_
  refine s135_5 (by first | assumption | rfl) (by simp) ?_
  refine c79 hZ hk hi hlen hok hn (fun q => ?_) (fun q g1 z f => ⟨fun q2 => ?_, fun q2 => ?_⟩)
  · refine ⟨13, ⟨rfl, by decide, _, w430, Or.inl ⟨w438, rfl⟩⟩, ?_⟩
    refine s135_13 ?_
    refine s135_15 ?_
    refine s135_16 (st := []) ?_
    exact hT (fun z => q z.1) g hZ zF.rf
  · refine ⟨13, ⟨rfl, by decide, _, w430, Or.inl ⟨w438, rfl⟩⟩, ?_⟩
    refine s135_13 ?_
    refine s135_15 ?_
    refine s135_16 (st := []) ?_
    exact hT (fun z => q2 z.2) g1 z f
  · show x_V S 135 8 _ (.int _ :: _) _ _ _
    refine s135_8 ?_
    refine v_last d135_9 rfl rfl ?_
    refine s135_10 ?_
    refine s135_17 ?_
    refine s135_18 (st := []) ?_
    exact hR ⟨q, q2⟩ g1 z f
theorem c136 {w : Int} (hZ : zC g y bs) (hB : yB B (yclr y)) (hw : ib w) (hn : 116 ≤ n ∧ n < 640) (hT : ¬ (0 ≤ w ∧ w ≤ 6) → Q (.inl (some (.int (I 1)))) (x_vm g) (n + 1)) (hR : (0 ≤ w ∧ w ≤ 6) → Q (.inl (some (.int (I 0)))) (x_vm (x_uf g 115 0 (yses y w))) n) : x_V S 136 0 [some (.ref 2), some (.int (I w)), some (.ref 115), none] [] (x_vm g) n Q := by
  refine s136_0 rfl ?_
  refine s136_1 ?_
  refine s136_2 rfl ?_
  refine s136_3 rfl ?_
  refine s136_4 (by first | assumption | rfl) (by simp) ?_
  refine c80 hZ hB hw hn (fun q => ?_) (fun q => ?_)
  · refine ⟨12, ⟨rfl, by decide, _, w430, Or.inl ⟨w438, rfl⟩⟩, ?_⟩
    refine s136_12 ?_
    refine s136_13 ?_
    refine s136_14 (st := []) ?_
    exact hT q
  · show x_V S 136 7 _ (.int _ :: _) _ _ _
    refine s136_7 ?_
    refine v_last d136_8 rfl rfl ?_
    refine s136_9 ?_
    refine s136_15 ?_
    refine s136_16 (st := []) ?_
    exact hR q
theorem c137 {u w : Int} (hZ : zC g y bs) (hO : yO y) (hu : ib u) (hw : ib w) (hn : 116 ≤ n ∧ n < 640) (hT : yfind y.2.2.2.1 u = y.2.2.2.1.length → Q (.inl (some (.int (I 1)))) (x_vm g) (n + 1))
    (hU : yfind y.2.2.2.1 u < y.2.2.2.1.length → ¬ (0 ≤ w ∧ w ≤ 3) → Q (.inl (some (.int (I 2)))) (x_vm g) (n + 1)) (hR : yfind y.2.2.2.1 u < y.2.2.2.1.length → (0 ≤ w ∧ w ≤ 3) → Q (.inl (some (.int (I 0)))) (x_vm (x_uf g 115 0 (yordv (y.2.2.2.1.getD (yfind y.2.2.2.1 u) yE) w))) n) : x_V S 137 0 [some (.ref 2), some (.int (I u)), some (.int (I w)), some (.ref 115), none] [] (x_vm g) n Q := by
  refine s137_0 rfl ?_
  refine s137_1 ?_
  refine s137_2 rfl ?_
  refine s137_3 rfl ?_
  refine s137_4 rfl ?_
  refine s137_5 (by first | assumption | rfl) (by simp) ?_
  refine c81 hZ hO hu hw hn (fun q => ?_) (fun q q2 => ?_) (fun q q2 => ?_)
  · refine ⟨13, ⟨rfl, by decide, _, w626, Or.inl ⟨w634, rfl⟩⟩, ?_⟩
    refine s137_13 ?_
    refine s137_15 ?_
    refine s137_16 (st := []) ?_
    exact hT q
  · refine ⟨17, ⟨rfl, by decide, _, w626, Or.inr ⟨by decide, rfl, by decide, _, w430, Or.inl ⟨w438, rfl⟩⟩⟩, ?_⟩
    refine s137_17 ?_
    refine s137_19 ?_
    refine s137_20 (st := []) ?_
    exact hU q q2
  · show x_V S 137 8 _ (.int _ :: _) _ _ _
    refine s137_8 ?_
    refine v_last d137_9 rfl rfl ?_
    refine s137_10 ?_
    refine s137_21 ?_
    refine s137_22 (st := []) ?_
    exact hR q q2
end LW
