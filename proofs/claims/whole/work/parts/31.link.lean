/-! 31.link: contracts of TradeLink over the mathematical value and the bytes of the frame at hand. -/
section CL
variable {S : Nat × (Nat → Int32)} {μ : xM} {g : Nat → Nat → Int} {n v : Nat} {Q : xQ} {y : yS} {B : Int} {bs : List Int}
def yclr (y : yS) : yS := (y.1, [], y.2.2)
def yv (p q u w : Int) : Nat → Int := fun i => if i = 0 then p else if i = 1 then q else if i = 2 then u else w
def yfr (m : yM) : List Int := x_fr m.1 m.2.1 m.2.2.1 (yv m.2.2.2.1 m.2.2.2.2.1 m.2.2.2.2.2.1 m.2.2.2.2.2.2)
/-- a frame that can be written -/
def yfok (m : yM) : Prop := (0 ≤ m.1 ∧ m.1 ≤ 127) ∧ (0 ≤ m.2.1 ∧ m.2.1 ≤ 999999) ∧ (m.2.2.1 = 0 ∨ m.2.2.1 = 1) ∧ (-1 ≤ m.2.2.2.1 ∧ m.2.2.2.1 ≤ 999999) ∧ (-1 ≤ m.2.2.2.2.1 ∧ m.2.2.2.2.1 ≤ 999999) ∧ (-1 ≤ m.2.2.2.2.2.1 ∧ m.2.2.2.2.2.1 ≤ 999999) ∧ (-1 ≤ m.2.2.2.2.2.2 ∧ m.2.2.2.2.2.2 ≤ 999999) ∧ (m.1 = 56 → 0 ≤ m.2.2.2.2.1 ∧ m.2.2.2.2.1 ≤ 127)
theorem x_rwf_row {t : Int} {k j : Nat} (hk : k ≤ 10) (hj : j < k) (h : x_rwf k t = 60 - 6 * ((j : Int) + 1)) : x_rowsL.getD (60 - 6 * (j + 1)) 0 = t := by
  induction k with
  | zero => exact absurd hj (Nat.not_lt_zero _)
  | succ k ih =>
    rw [x_rwf] at h
    split at h
    · rename_i e
      rw [show j = k by omega]
      exact e
    · rcases Nat.lt_or_ge j k with q | q
      · exact ih (by omega) q h
      · exfalso
        rcases x_rwf_is k t with e | ⟨i, hi, e⟩
        · rw [e] at h; omega
        · rw [e] at h; omega
theorem x_tg_ne {t : Int} {i : Nat} (h : x_tg t i = 39) : t = 56 ∧ i = 1 := by
  unfold x_tg at h
  split at h
  · exact absurd h (by decide)
  · rename_i q
    rcases x_rwf_is 10 t with e | ⟨j, hj, e⟩
    · omega
    · have hr := x_rwf_row (by omega) hj e
      rw [e] at h
      have z : ∀ j : Nat, j < 10 → ∀ i : Nat, i < 4 → x_rowsL.getD ((60 : Int) - 6 * ((j : Int) + 1) + 2 + (i : Int)).toNat 0 = 39 → j = 0 ∧ i = 1 := by decide
      obtain ⟨z1, z2⟩ := z j hj i (by omega) h
      subst z1
      exact ⟨by rw [← hr]; decide, z2⟩
theorem x_of_congr {t : Int} {u w : Nat → Int} {i : Nat} (h : ∀ i, i < 4 → u i = w i) (hi : i < 4) : x_of t u i = x_of t w i := by
  unfold x_of
  rw [h 1 (by omega), h i hi]
theorem x_owl_congr {t : Int} {u w : Nat → Int} (h : ∀ i, i < 4 → u i = w i) : ∀ d i : Nat, i + d ≤ 4 → x_owl t u d i = x_owl t w d i
  | 0, i, _ => rfl
  | d + 1, i, hd => by
    rw [x_owl, x_owl, x_of_congr h (by omega), x_owl_congr h d (i + 1) (by omega)]
theorem x_fr_congr {t m d : Int} {u w : Nat → Int} (h : ∀ i, i < 4 → u i = w i) : x_fr t m d u = x_fr t m d w := by
  have e : x_bd t m d u = x_bd t m d w := by
    have := x_fc_b t
    unfold x_bd
    rw [x_owl_congr h _ _ (by omega)]
  unfold x_fr x_hb
  rw [e]
theorem x_sf_len (s : Int) : (x_sf s).length ≤ 7 := by
  have := x_dk3 (v := 10) (by omega) (by omega)
  unfold x_sf
  simp only [List.length_append, List.length_cons, List.length_nil]
  have e : (x_dk 6 0 10).length = 2 := by decide
  omega
theorem x_fr_len (t m d : Int) (u : Nat → Int) : (x_fr t m d u).length ≤ 80 := by
  have h1 := x_bd_len t m d u
  have h2 := x_sf_len (x_sm (fun j => (x_hb t m d u).getD j 0) (x_hb t m d u).length % 256)
  have h3 : (x_hb t m d u).length = 9 + (x_bd t m d u).length := by
    unfold x_hb
    simp only [List.length_append, List.length_cons, List.length_nil]
  unfold x_fr
  rw [List.length_append]
  omega
theorem x_by_fr {t m d : Int} {u : Nat → Int} (ht : 0 ≤ t ∧ t ≤ 127) (h : ∀ i : Nat, x_tg t i = 39 → 0 ≤ u i ∧ u i ≤ 127) : x_by (x_fr t m d u) := x_by_app (x_by_hb ht h) (x_by_sf (by omega))
theorem yv_s {m : yM} (h : yfok m) : ∀ i : Nat, x_tg m.1 i = 39 → 0 ≤ yv m.2.2.2.1 m.2.2.2.2.1 m.2.2.2.2.2.1 m.2.2.2.2.2.2 i ∧ yv m.2.2.2.1 m.2.2.2.2.1 m.2.2.2.2.2.1 m.2.2.2.2.2.2 i ≤ 127 := fun i hi => by
  obtain ⟨e1, e2⟩ := x_tg_ne hi
  rw [e2]
  exact h.2.2.2.2.2.2.2 e1
theorem yfr_len (m : yM) : (yfr m).length ≤ 80 := x_fr_len _ _ _ _
theorem yfr_by {m : yM} (h : yfok m) : x_by (yfr m) := x_by_fr h.1 (yv_s h)
/-- the class at rest: the session's value, the bytes of the frame at hand, what the other rows hold -/
def zC (g : Nat → Nat → Int) (y : yS) (bs : List Int) : Prop := yC g y ∧ (g 4 1 = bs.length ∧ bs.length ≤ 120 ∧ ∀ i, i < bs.length → g 5 i = bs.getD i 0) ∧ (∀ j, j < 120 → 0 ≤ g 5 j ∧ g 5 j ≤ 127) ∧ (∀ j, j < 120 → 0 ≤ g 12 j ∧ g 12 j ≤ 127) ∧ ∀ i, i < 4 → -1 ≤ g 7 i ∧ g 7 i ≤ 999999
/-- what the class leaves alone -/
def zF (g g' : Nat → Nat → Int) : Prop := ∀ a i, 100 ≤ a → g' a i = g a i
theorem zF.rf : zF g g := fun _ _ _ => rfl
theorem zF.tr {g1 g2 : Nat → Nat → Int} (h1 : zF g g1) (h2 : zF g1 g2) : zF g g2 := fun a i h => (h2 a i h).trans (h1 a i h)
theorem yF.z {g' : Nat → Nat → Int} (h : yF g g') : zF g g' := fun a i q => h a i (Or.inr (Or.inl q))
theorem zF.u {b j : Nat} {z : Int} (hb : b < 100) : zF g (x_uf g b j z) := fun a i q => x_uf_ne (by omega)
theorem zC.ses {g' : Nat → Nat → Int} {y' : yS} (h : zC g y bs) (hC : yC g' y') (hF : yF g g') : zC g' y' bs :=
  ⟨hC, ⟨by rw [hF _ _ (by omega)]; exact h.2.1.1, h.2.1.2.1, fun i hi => by rw [hF _ _ (by omega)]; exact h.2.1.2.2 i hi⟩, fun j hj => by rw [hF _ _ (by omega)]; exact h.2.2.1 j hj, fun j hj => by rw [hF _ _ (by omega)]; exact h.2.2.2.1 j hj, fun j hj => by rw [hF _ _ (by omega)]; exact h.2.2.2.2 j hj⟩
theorem yC.low {g' : Nat → Nat → Int} (h : yC g y) (e : ∀ a i, 8 ≤ a → a ≠ 11 → a ≠ 12 → g' a i = g a i) : yC g' y :=
  ⟨fun j h1 h2 => by rw [e _ _ (by omega) (by omega) (by omega)]; exact h.1 j h1 h2, h.2.1.eq (fun a i _ _ _ _ => e _ _ (by omega) (by omega) (by omega)), h.2.2.1.eq (fun a i _ => e _ _ (by omega) (by omega) (by omega)), h.2.2.2.1.eq (e _ _ (by omega) (by omega) (by omega)) (fun a i _ _ => e _ _ (by omega) (by omega) (by omega)), h.2.2.2.2.eq (e _ _ (by omega) (by omega) (by omega)) (fun i => e _ _ (by omega) (by omega) (by omega))⟩
theorem yC.clr (h : yC g y) : yC (x_uf g 9 2 0) (yclr y) := by
  obtain ⟨h1, h2, h3, h4, h5⟩ := h
  refine ⟨fun j q1 q2 => by rw [x_uf_ne (by omega)]; exact h1 j q1 q2, ⟨x_uf_eq _ _ _ _, fun k _ q => absurd q (Nat.not_lt_zero _)⟩, h3.eq (fun a i _ => x_uf_ne (by omega)), h4.eq (x_uf_ne (by omega)) (fun a i _ _ => x_uf_ne (by omega)), h5.eq (x_uf_ne (by omega)) (fun i => x_uf_ne (by omega))⟩
theorem yF.clr : yF g (x_uf g 9 2 0) := fun a i h => x_uf_ne (by omega)
theorem zC.clr (h : zC g y bs) : zC (x_uf g 9 2 0) (yclr y) bs := h.ses h.1.clr yF.clr
theorem zC.row {l : List Int} (h : zC g y bs) (hl : l.length ≤ 120) (hb : x_by l) : zC (x_rw 4 5 l g) y l :=
  ⟨h.1.low (fun a i _ _ _ => x_rw_ot (by omega) (by omega) l g), ⟨x_rw_sz 4 5 l g, hl, fun i hi => x_rw_at (by omega) hi g⟩, fun j hj => by
    by_cases q : j < l.length
    · rw [x_rw_at (by omega) q]; exact x_by_get hb q
    · have e : x_rw 4 5 l g 5 j = g 5 j := by
        unfold x_rw
        rw [if_neg (by omega), if_neg (by omega)]
      rw [e]; exact h.2.2.1 j hj, fun j hj => by rw [x_rw_ot (by omega) (by omega)]; exact h.2.2.2.1 j hj, fun j hj => by rw [x_rw_ot (by omega) (by omega)]; exact h.2.2.2.2 j hj⟩
theorem zC.wr {l : List Int} (h : zC g y bs) (hb : x_by l) : zC (x_rw 11 12 l g) y bs :=
  ⟨h.1.low (fun a i _ _ _ => x_rw_ot (by omega) (by omega) l g), ⟨by rw [x_rw_ot (by omega) (by omega)]; exact h.2.1.1, h.2.1.2.1, fun i hi => by rw [x_rw_ot (by omega) (by omega)]; exact h.2.1.2.2 i hi⟩, fun j hj => by rw [x_rw_ot (by omega) (by omega)]; exact h.2.2.1 j hj, fun j hj => by
    by_cases q : j < l.length
    · rw [x_rw_at (by omega) q]; exact x_by_get hb q
    · have e : x_rw 11 12 l g 12 j = g 12 j := by
        unfold x_rw
        rw [if_neg (by omega), if_neg (by omega)]
      rw [e]; exact h.2.2.2.1 j hj, fun j hj => by rw [x_rw_ot (by omega) (by omega)]; exact h.2.2.2.2 j hj⟩
theorem zC.msg {g' : Nat → Nat → Int} (h : zC g y bs) (e : ∀ a i, a ≠ 6 → a ≠ 7 → g' a i = g a i) (hv : ∀ i, i < 4 → -1 ≤ g' 7 i ∧ g' 7 i ≤ 999999) : zC g' y bs :=
  ⟨h.1.low (fun a i _ _ _ => e _ _ (by omega) (by omega)), ⟨by rw [e _ _ (by omega) (by omega)]; exact h.2.1.1, h.2.1.2.1, fun i hi => by rw [e _ _ (by omega) (by omega)]; exact h.2.1.2.2 i hi⟩, fun j hj => by rw [e _ _ (by omega) (by omega)]; exact h.2.2.1 j hj, fun j hj => by rw [e _ _ (by omega) (by omega)]; exact h.2.2.2.1 j hj, hv⟩
theorem x_shx {n : Nat} (h : 116 ≤ n) : x_sh n = (99, 6) := by
  unfold x_sh
  rw [if_neg (by omega), if_pos h]
theorem zF.rw {l : List Int} {r o : Nat} (hr : r < 100) (ho : o < 100) : zF g (x_rw r o l g) := fun a i h => x_rw_ot (by omega) (by omega) l g
theorem c82 {v : Int} (hv : ib v) (h : Q (.inl (some (.int (I (if 0 ≤ v ∧ v ≤ 999999 then 1 else 0))))) μ n) : x_V S 82 0 [some (.int (I v))] [] μ n Q := by
  obtain ⟨h1, h2⟩ := hv
  refine s82_0 rfl ?_
  refine s82_1 ⟨by omega, by omega⟩ (fun h1 => ?_) (fun h1 => ?_)
  · refine s82_14 ?_
    refine s82_15 (st := []) (by omega) ?_
    first | (rw [if_pos (by omega)] at h; exact h) | (rw [if_neg (by omega)] at h; exact h)
  · refine s82_4 rfl ?_
    refine s82_5 ?_
    refine s82_7 ⟨by omega, by omega⟩ ⟨by omega, by omega⟩ (fun h7 => ?_) (fun h7 => ?_)
    · refine s82_14 ?_
      refine s82_15 (st := []) (by omega) ?_
      first | (rw [if_pos (by omega)] at h; exact h) | (rw [if_neg (by omega)] at h; exact h)
    · refine s82_10 ?_
      refine s82_11 ?_
      refine s82_15 (st := []) (by omega) ?_
      first | (rw [if_pos (by omega)] at h; exact h) | (rw [if_neg (by omega)] at h; exact h)
theorem c70 {t m d a b c : Int} (hZ : zC g y bs) (ht : ib t) (hm : ib m) (ha : ib a) (hb : ib b) (hc : ib c) (hd : d = 0 ∨ d = 1) (hn : 116 ≤ n ∧ n < 640) (hT : ¬ (x_peer t ∧ (0 ≤ m ∧ m ≤ 999999) ∧ (0 ≤ a ∧ a ≤ 999999) ∧ (0 ≤ b ∧ b ≤ 999999) ∧ (0 ≤ c ∧ c ≤ 999999)) → Q (.inr 0) (x_vm g) (n + 1))
    (hR : (x_peer t ∧ (0 ≤ m ∧ m ≤ 999999) ∧ (0 ≤ a ∧ a ≤ 999999) ∧ (0 ≤ b ∧ b ≤ 999999) ∧ (0 ≤ c ∧ c ≤ 999999)) → ∀ g', zC g' (yclr y) (yfr (t, m, d, (if t = 48 ∧ a = 0 then -1 else a), b, c, 0)) → zF g g' → Q (.inl (some (.int (I (yfr (t, m, d, (if t = 48 ∧ a = 0 then -1 else a), b, c, 0)).length)))) (x_vm g') n) : x_V S 70 0 [some (.ref 2), some (.int (I t)), some (.int (I m)), some (.int (I d)), some (.int (I a)), some (.int (I b)), some (.int (I c))] [] (x_vm g) n Q := by
  have hs := x_shx hn.1
  have hn2 : n < x_NM := hn.2
  have ht2 := ht
  obtain ⟨m1, m2⟩ := hm
  obtain ⟨a1, a2⟩ := ha
  obtain ⟨b1, b2⟩ := hb
  obtain ⟨k1, k2⟩ := hc
  obtain ⟨t1, t2⟩ := ht
  have fin : (x_peer t ∧ (0 ≤ m ∧ m ≤ 999999) ∧ (0 ≤ a ∧ a ≤ 999999) ∧ (0 ≤ b ∧ b ≤ 999999) ∧ (0 ≤ c ∧ c ≤ 999999)) → ∀ p : Int, p = (if t = 48 ∧ a = 0 then -1 else a) → x_V S 70 95 [some (.ref 2), some (.int (I t)), some (.int (I m)), some (.int (I d)), some (.int (I a)), some (.int (I b)), some (.int (I c))] [] (x_vm (x_say 7 p b c 0 (x_bg 6 t m d (x_uf g 9 2 0)))) n Q := by
    intro hg p ep
    have hR := hR hg
    obtain ⟨g1, g2, g3, g4, g5⟩ := hg
    have ht : 48 ≤ t ∧ t ≤ 71 ∧ t ≠ 56 := by unfold x_peer at g1; omega
    rw [← ep] at hR
    have hp : -1 ≤ p ∧ p ≤ 999999 := by rw [ep]; split <;> omega
    have hk : yfok (t, m, d, p, b, c, 0) := ⟨⟨by show 0 ≤ t; omega, by show t ≤ 127; omega⟩, g2, hd, hp, ⟨by show -1 ≤ b; omega, g4.2⟩, ⟨by show -1 ≤ c; omega, g5.2⟩, (show (-1 : Int) ≤ 0 ∧ (0 : Int) ≤ 999999 by omega), fun e => absurd e ht.2.2⟩
    have hZ1 : zC (x_say 7 p b c 0 (x_bg 6 t m d (x_uf g 9 2 0))) (yclr y) bs := hZ.clr.msg (fun a i q1 q2 => by rw [x_say_ne q2, x_bg_ne q1]) (fun i hi => by
      have e := x_say_v (v := 7) (p := p) (q := b) (u := c) (w := 0) (g := x_bg 6 t m d (x_uf g 9 2 0))
      match i, hi with
      | 0, _ => rw [e.1]; omega
      | 1, _ => rw [e.2.1]; omega
      | 2, _ => rw [e.2.2.1]; omega
      | 3, _ => rw [e.2.2.2]; omega)
    have q := x_bg_v (a := 6) (t := t) (m := m) (d := d) (g := x_uf g 9 2 0)
    have e := x_say_v (v := 7) (p := p) (q := b) (u := c) (w := 0) (g := x_bg 6 t m d (x_uf g 9 2 0))
    have hF1 : zF g (x_say 7 p b c 0 (x_bg 6 t m d (x_uf g 9 2 0))) := fun a i q1 => by rw [x_say_ne (by omega), x_bg_ne (by omega), x_uf_ne (by omega)]
    have q0 : x_say 7 p b c 0 (x_bg 6 t m d (x_uf g 9 2 0)) 6 0 = t := by rw [x_say_ne (by omega)]; exact q.1
    have q1 : x_say 7 p b c 0 (x_bg 6 t m d (x_uf g 9 2 0)) 6 1 = m := by rw [x_say_ne (by omega)]; exact q.2.1
    have q2 : x_say 7 p b c 0 (x_bg 6 t m d (x_uf g 9 2 0)) 6 2 = d := by rw [x_say_ne (by omega)]; exact q.2.2
    have ev : ∀ i, i < 4 → x_say 7 p b c 0 (x_bg 6 t m d (x_uf g 9 2 0)) 7 i = yv p b c 0 i := fun i hi => by
      match i, hi with
      | 0, _ => exact e.1
      | 1, _ => exact e.2.1
      | 2, _ => exact e.2.2.1
      | 3, _ => exact e.2.2.2
    generalize x_say 7 p b c 0 (x_bg 6 t m d (x_uf g 9 2 0)) = gm at hZ1 hF1 q0 q1 q2 ev
    have ef : x_fr (gm 6 0) (gm 6 1) (gm 6 2) (gm 7) = yfr (t, m, d, p, b, c, 0) := by
      rw [q0, q1, q2, x_fr_congr ev]
      rfl
    have hZ2 := hZ1.row (l := yfr (t, m, d, p, b, c, 0)) (Nat.le_trans (yfr_len _) (by omega)) (yfr_by hk)
    have e41 := x_rw_sz 4 5 (yfr (t, m, d, p, b, c, 0)) gm
    refine s70_95 rfl ?_
    refine s70_96 (by first | assumption | rfl) (by first | assumption | (exact hpo _) | rfl | decide) ?_
    refine s70_99 rfl ?_
    refine s70_100 (by first | assumption | rfl) (by first | assumption | (exact hpo _) | rfl | decide) ?_
    refine s70_103 (by first | assumption | rfl) (by first | assumption | (exact hpo _) | rfl | decide) ?_
    refine s70_106 rfl (by first | assumption | rfl) (by simp) ?_
    refine c25 x_row4 x_msg6 ⟨by omega, by omega, by omega, by omega⟩ (by omega) (by omega) (by omega) hZ1.2.2.2.2 (fun i hi => by rw [q0] at hi; have := x_tg_ne hi; omega) hZ1.2.2.1 ?_
    refine ⟨_, rfl, ?_⟩
    rw [ef]
    refine s70_109 rfl ?_
    refine s70_110 (by first | assumption | rfl) (by first | assumption | (exact hpo _) | rfl | decide) ?_
    refine s70_113 (by first | assumption | rfl) (by first | assumption | (exact hpo _) | rfl | decide) ?_
    refine s70_116 (by first | assumption | rfl) (by first | assumption | (exact hpo _) | rfl | decide) (by first | assumption | decide | omega) ?_
    rw [e41]
    refine s70_119 (st := []) ?_
    exact hR _ hZ2 (hF1.tr (zF.rw (by omega) (by omega)))
  refine s70_0 rfl ?_
  refine s70_1 (by simp) ?_
  refine c1 ht2 (fun hp => ?_) (fun hp => ⟨_, rfl, ?_⟩)
  rotate_left
  · refine s70_4 ⟨by omega, by omega⟩ (fun h4 => ?_) (fun h4 => absurd rfl h4)
    refine s70_38 hs hn2 (by simp) ?_
    exact hT (fun q => hp q.1)
  refine ⟨_, rfl, ?_⟩
  refine s70_4 ⟨by omega, by omega⟩ (fun h4 => absurd h4 (by decide)) (fun h4 => ?_)
  refine s70_7 rfl ?_
  refine s70_8 (by simp) ?_
  refine c82 ⟨by omega, by omega⟩ ?_
  refine ⟨_, rfl, ?_⟩
  generalize ezm : (if 0 ≤ m ∧ m ≤ 999999 then (1 : Int) else 0) = zm
  have hzm : (zm = 0 ∧ ¬ (0 ≤ m ∧ m ≤ 999999)) ∨ (zm = 1 ∧ 0 ≤ m ∧ m ≤ 999999) := by
    rw [← ezm]
    split
    · exact Or.inr ⟨rfl, by assumption⟩
    · exact Or.inl ⟨rfl, by assumption⟩
  refine s70_11 ⟨by omega, by omega⟩ (fun h11 => ?_) (fun h11 => ?_)
  · refine s70_38 (by first | assumption | rfl) (by first | assumption | omega) (by simp) ?_
    exact hT (fun q => by omega)
  · refine s70_14 rfl ?_
    refine s70_16 (by simp) ?_
    refine c82 ⟨by omega, by omega⟩ ?_
    refine ⟨_, rfl, ?_⟩
    generalize eza : (if 0 ≤ a ∧ a ≤ 999999 then (1 : Int) else 0) = za
    have hza : (za = 0 ∧ ¬ (0 ≤ a ∧ a ≤ 999999)) ∨ (za = 1 ∧ 0 ≤ a ∧ a ≤ 999999) := by
      rw [← eza]
      split
      · exact Or.inr ⟨rfl, by assumption⟩
      · exact Or.inl ⟨rfl, by assumption⟩
    refine s70_19 ⟨by omega, by omega⟩ (fun h19 => ?_) (fun h19 => ?_)
    · refine s70_38 (by first | assumption | rfl) (by first | assumption | omega) (by simp) ?_
      exact hT (fun q => by omega)
    · refine s70_22 rfl ?_
      refine s70_24 (by simp) ?_
      refine c82 ⟨by omega, by omega⟩ ?_
      refine ⟨_, rfl, ?_⟩
      generalize ezb : (if 0 ≤ b ∧ b ≤ 999999 then (1 : Int) else 0) = zb
      have hzb : (zb = 0 ∧ ¬ (0 ≤ b ∧ b ≤ 999999)) ∨ (zb = 1 ∧ 0 ≤ b ∧ b ≤ 999999) := by
        rw [← ezb]
        split
        · exact Or.inr ⟨rfl, by assumption⟩
        · exact Or.inl ⟨rfl, by assumption⟩
      refine s70_27 ⟨by omega, by omega⟩ (fun h27 => ?_) (fun h27 => ?_)
      · refine s70_38 (by first | assumption | rfl) (by first | assumption | omega) (by simp) ?_
        exact hT (fun q => by omega)
      · refine s70_30 rfl ?_
        refine s70_32 (by simp) ?_
        refine c82 ⟨by omega, by omega⟩ ?_
        refine ⟨_, rfl, ?_⟩
        generalize ezc : (if 0 ≤ c ∧ c ≤ 999999 then (1 : Int) else 0) = zc
        have hzc : (zc = 0 ∧ ¬ (0 ≤ c ∧ c ≤ 999999)) ∨ (zc = 1 ∧ 0 ≤ c ∧ c ≤ 999999) := by
          rw [← ezc]
          split
          · exact Or.inr ⟨rfl, by assumption⟩
          · exact Or.inl ⟨rfl, by assumption⟩
        refine s70_35 ⟨by omega, by omega⟩ (fun h35 => ?_) (fun h35 => ?_)
        · refine s70_46 rfl ?_
          refine s70_47 (by first | assumption | rfl) (by first | assumption | (exact hpo _) | rfl | decide) ?_
          refine s70_50 (by first | assumption | rfl) (by first | assumption | (exact hpo _) | rfl | decide) ?_
          refine s70_53 (by first | assumption | rfl) (by simp) ?_
          refine c38 ?_
          refine ⟨_, rfl, ?_⟩
          refine s70_56 rfl ?_
          refine s70_57 (by first | assumption | rfl) (by first | assumption | (exact hpo _) | rfl | decide) ?_
          refine s70_60 rfl ?_
          refine s70_61 rfl ?_
          refine s70_62 rfl ?_
          refine s70_63 (by first | assumption | rfl) (by simp) ?_
          refine c22 x_msg6 hd ?_
          refine ⟨_, rfl, ?_⟩
          refine s70_66 rfl ?_
          refine s70_67 (by first | assumption | rfl) (by first | assumption | (exact hpo _) | rfl | decide) ?_
          refine s70_70 rfl ?_
          refine s70_71 ?_
          refine s70_73 ⟨by omega, by omega⟩ ⟨by omega, by omega⟩ (fun h73 => ?_) (fun h73 => ?_)
          · refine s70_85 rfl ?_
            refine s70_87 rfl ?_
            refine s70_89 rfl ?_
            refine s70_91 ?_
            refine s70_92 (by first | assumption | rfl) (by simp) ?_
            refine c23 x_msg6 ?_
            refine ⟨_, rfl, ?_⟩
            first
              | exact fin ⟨hp, by omega, by omega, by omega, by omega⟩ _ (if_pos ⟨by omega, by omega⟩).symm
              | exact fin ⟨hp, by omega, by omega, by omega, by omega⟩ _ (if_neg (fun q => by omega)).symm
          · refine s70_76 rfl ?_
            refine s70_78 ⟨by omega, by omega⟩ (fun h78 => ?_) (fun h78 => ?_)
            · refine s70_85 rfl ?_
              refine s70_87 rfl ?_
              refine s70_89 rfl ?_
              refine s70_91 ?_
              refine s70_92 (by first | assumption | rfl) (by simp) ?_
              refine c23 x_msg6 ?_
              refine ⟨_, rfl, ?_⟩
              first
                | exact fin ⟨hp, by omega, by omega, by omega, by omega⟩ _ (if_pos ⟨by omega, by omega⟩).symm
                | exact fin ⟨hp, by omega, by omega, by omega, by omega⟩ _ (if_neg (fun q => by omega)).symm
            · refine s70_81 ?_
              refine s70_82 ?_
              refine s70_87 rfl ?_
              refine s70_89 rfl ?_
              refine s70_91 ?_
              refine s70_92 (by first | assumption | rfl) (by simp) ?_
              refine c23 x_msg6 ?_
              refine ⟨_, rfl, ?_⟩
              first
                | exact fin ⟨hp, by omega, by omega, by omega, by omega⟩ _ (if_pos ⟨by omega, by omega⟩).symm
                | exact fin ⟨hp, by omega, by omega, by omega, by omega⟩ _ (if_neg (fun q => by omega)).symm
        · refine s70_38 (by first | assumption | rfl) (by first | assumption | omega) (by simp) ?_
          exact hT (fun q => by omega)
end CL
