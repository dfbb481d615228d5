/-! 46.send: the reference sends, leaves, asks. -/
section MS
variable {S : Nat × (Nat → Int32)} {μ : xM} {g : Nat → Nat → Int} {n : Nat} {Q : xQ} {y : yS} {B : Int}
theorem rC.scal {z : Int} {x : Int} {l : List yR} (h : rC g y) (e : x_uf g 100 21 z = x_uf g 100 21 z) (h3 : rC3 g z l) : rC (x_uf g 100 21 z) (yset (y.1, y.2.1, l, y.2.2.2) 4 z) := by
  refine ⟨fun i q1 q2 => ?_, h.2.1.eq (x_uf_ne (by omega)) (fun a i q => x_uf_ne (by omega)), ?_, h.2.2.2.1.eq (x_uf_ne (by omega)) (fun a i q => x_uf_ne (by omega)), h.2.2.2.2.eq (x_uf_ne (by omega)) (fun i => x_uf_ne (by omega))⟩
  · have hi := mf_b q1 q2
    show x_uf g 100 21 z 100 (mf i) = if i = 4 then z else y.1 i
    by_cases c : i = 4
    · rw [if_pos c, c, show mf 4 = 21 from rfl, x_uf_eq]
    · rw [if_neg c, x_uf_ne (by omega)]
      exact h.1 i q1 q2
  · have e4 : (yset (y.1, y.2.1, l, y.2.2.2) 4 z).1 4 = z := yset_eq
    rw [e4]
    exact h3.eq (fun a i q => x_uf_ne (by omega))
theorem rC3.one {N : Nat} {l : List yR} (h : rC3 g (N : Int) l) (e : g 107 N = 1) : rC3 g ((N : Int) + 1) (l ++ [((N : Int), g 108 (4 * N), g 108 (4 * N + 1), g 108 (4 * N + 2), g 108 (4 * N + 3))]) := fun j h1 h2 => by
  by_cases c : j = N
  · rw [c]
    exact Or.inl ⟨e, List.mem_append_right _ (List.mem_singleton.2 rfl)⟩
  · rcases h j h1 (by omega) with ⟨a1, a2⟩ | ⟨a1, a2⟩
    · exact Or.inl ⟨a1, List.mem_append_left _ a2⟩
    · refine Or.inr ⟨a1, fun r hr => ?_⟩
      rcases List.mem_append.1 hr with q | q
      · exact a2 r q
      · rw [List.mem_singleton.1 q]
        show (N : Int) ≠ (j : Int)
        omega
theorem rC3.nul {N : Nat} {l : List yR} (h : rC3 g (N : Int) l) (e : g 107 N = 0) (hl : ∀ r ∈ l, r.1 < (N : Int)) : rC3 g ((N : Int) + 1) l := fun j h1 h2 => by
  by_cases c : j = N
  · rw [c]
    exact Or.inr ⟨e, fun r hr => by have := hl r hr; omega⟩
  · exact h j h1 (by omega)
def rkeep (y : yS) (t p q r s : Int) : yS := if t = 56 then ykeep y (y.1 4, p, q, r, s) else y
def rsend (y : yS) (t p q r s : Int) : yS := yset (if y.1 6 = 0 then rkeep y t p q r s else ypost (rkeep y t p q r s) (t, y.1 4, 0, p, q, r, s)) 4 (y.1 4 + 1)
/-- the number is taken -/
theorem rC.nx {N : Nat} {t p q r s : Int} (h : rC g y) (hN : y.1 4 = N) (hl : ∀ r ∈ y.2.2.1, r.1 < y.1 4) (e : g 107 N = if t = 56 then 1 else 0) (e0 : g 108 (4 * N) = p) (e1 : g 108 (4 * N + 1) = q) (e2 : g 108 (4 * N + 2) = r) (e3 : g 108 (4 * N + 3) = s) : rC (x_uf g 100 21 (N + 1)) (yset (rkeep y t p q r s) 4 (y.1 4 + 1)) := by
  have h3 := h.2.2.1
  rw [hN] at h3 hl
  unfold rkeep
  by_cases c : t = 56
  · rw [if_pos c] at e ⊢
    have := h3.one e
    rw [e0, e1, e2, e3] at this
    rw [hN]
    exact h.scal (x := 0) rfl this
  · rw [if_neg c] at e ⊢
    rw [hN]
    exact h.scal (x := 0) (l := y.2.2.1) rfl (h3.nul e hl)
theorem rC.ot {g' : Nat → Nat → Int} (h : rC g y) {N : Nat} (hN : y.1 4 = N) (e : ∀ a i, a ≠ 107 → a ≠ 108 → g' a i = g a i) (e7 : ∀ j, j < N → g' 107 j = g 107 j) (e8 : ∀ j, j < 4 * N → g' 108 j = g 108 j) : rC g' y := by
  refine ⟨fun j q1 q2 => (e _ _ (by omega) (by omega)).trans (h.1 j q1 q2), h.2.1.eq (e _ _ (by omega) (by omega)) (fun a i q => e _ _ (by omega) (by omega)), fun j q1 q2 => ?_, h.2.2.2.1.eq (e _ _ (by omega) (by omega)) (fun a i q => e _ _ (by omega) (by omega)), h.2.2.2.2.eq (e _ _ (by omega) (by omega)) (fun i => e _ _ (by omega) (by omega))⟩
  rw [hN] at q2
  rw [e7 _ (by omega), e8 _ (by omega), e8 _ (by omega), e8 _ (by omega), e8 _ (by omega)]
  exact h.2.2.1 j q1 (by rw [hN]; exact q2)
theorem rkeep_post {t p q r s : Int} {M : yM} : rkeep (ypost y M) t p q r s = ypost (rkeep y t p q r s) M := by
  unfold rkeep
  by_cases c : t = 56
  · rw [if_pos c, if_pos c]; rfl
  · rw [if_neg c, if_neg c]
theorem c98 {t p q r s : Int} {N : Nat} (hC : rC g y) (hlen : y.2.1.length ≤ 100000) (hN : y.1 4 = N) (hN2 : N < 1600) (hl : ∀ r ∈ y.2.2.1, r.1 < y.1 4) (h6 : y.1 6 = 0 ∨ y.1 6 = 1) (ht : ib t) (ht2 : t ≠ 52) (ho : y.1 6 ≠ 0 → rok (t, y.1 4, 0, p, q, r, s)) (h : ∀ g', rC g' (rsend y t p q r s) → rF g g' → Q (.inl none) (x_vm g') n) : x_V S 98 0 [some (.ref 100), some (.int (I t)), some (.int (I p)), some (.int (I q)), some (.int (I r)), some (.int (I s))] [] (x_vm g) n Q := by
  have at1 := hC.1.at
  have e21 : g 100 21 = (N : Int) := by rw [at1.2.1]; exact hN
  have emq : mq t q = q := if_neg ht2
  obtain ⟨t1, t2⟩ := ht
  have main : ∀ b : Int, b = (if t = 56 then 1 else 0) → x_V S 98 20 [some (.ref 100), some (.int (I t)), some (.int (I p)), some (.int (I q)), some (.int (I r)), some (.int (I s))] [] (x_vm (x_uf g 107 N b)) n Q := by
    intro b eb
    have f21 : x_uf g 107 N b 100 21 = (N : Int) := by rw [x_uf_ne (by omega)]; exact e21
    have f21a : x_uf (x_uf g 107 N b) 108 (4 * N) p 100 21 = (N : Int) := by rw [x_uf_ne (by omega)]; exact f21
    have f21b : x_uf (x_uf (x_uf g 107 N b) 108 (4 * N) p) 108 (4 * N + 1) q 100 21 = (N : Int) := by rw [x_uf_ne (by omega)]; exact f21a
    have f21c : x_uf (x_uf (x_uf (x_uf g 107 N b) 108 (4 * N) p) 108 (4 * N + 1) q) 108 (4 * N + 2) r 100 21 = (N : Int) := by rw [x_uf_ne (by omega)]; exact f21b
    refine s98_20 rfl ?_
    refine s98_21 (by first | assumption | rfl) (by first | assumption | (exact hpo _) | rfl | decide) ?_
    refine s98_24 ?_
    refine s98_25 rfl ?_
    refine s98_26 (by first | assumption | rfl) (by first | assumption | (exact hpo _) | rfl | decide) (by first | assumption | decide | omega) ?_
    rw [f21]
    refine s98_29 ?_
    refine s98_30 rfl ?_
    refine v_iast d98_31 (by first | assumption | rfl) (by omega) (by omega) (by omega) (by first | assumption | (exact hpo _) | rfl | decide) (by first | assumption | decide | omega) ?_
    rw [show ((4 : Int) * (N : Int)).toNat = 4 * N by omega]
    refine s98_32 rfl ?_
    refine s98_33 (by first | assumption | rfl) (by first | assumption | (exact hpo _) | rfl | decide) ?_
    refine s98_36 ?_
    refine s98_37 rfl ?_
    refine s98_38 (by first | assumption | rfl) (by first | assumption | (exact hpo _) | rfl | decide) (by first | assumption | decide | omega) ?_
    rw [f21a]
    refine s98_41 ?_
    refine s98_42 ?_
    refine s98_43 ?_
    refine s98_44 rfl ?_
    refine v_iast d98_45 (by first | assumption | rfl) (by omega) (by omega) (by omega) (by first | assumption | (exact hpo _) | rfl | decide) (by first | assumption | decide | omega) ?_
    rw [show ((4 : Int) * (N : Int) + 1).toNat = 4 * N + 1 by omega]
    refine s98_46 rfl ?_
    refine s98_47 (by first | assumption | rfl) (by first | assumption | (exact hpo _) | rfl | decide) ?_
    refine s98_50 ?_
    refine s98_51 rfl ?_
    refine s98_52 (by first | assumption | rfl) (by first | assumption | (exact hpo _) | rfl | decide) (by first | assumption | decide | omega) ?_
    rw [f21b]
    refine s98_55 ?_
    refine s98_56 ?_
    refine s98_57 ?_
    refine s98_58 rfl ?_
    refine v_iast d98_60 (by first | assumption | rfl) (by omega) (by omega) (by omega) (by first | assumption | (exact hpo _) | rfl | decide) (by first | assumption | decide | omega) ?_
    rw [show ((4 : Int) * (N : Int) + 2).toNat = 4 * N + 2 by omega]
    refine s98_61 rfl ?_
    refine s98_62 (by first | assumption | rfl) (by first | assumption | (exact hpo _) | rfl | decide) ?_
    refine s98_65 ?_
    refine s98_66 rfl ?_
    refine s98_67 (by first | assumption | rfl) (by first | assumption | (exact hpo _) | rfl | decide) (by first | assumption | decide | omega) ?_
    rw [f21c]
    refine s98_70 ?_
    refine s98_71 ?_
    refine s98_72 ?_
    refine s98_73 rfl ?_
    refine v_iast d98_75 (by first | assumption | rfl) (by omega) (by omega) (by omega) (by first | assumption | (exact hpo _) | rfl | decide) (by first | assumption | decide | omega) ?_
    rw [show ((4 : Int) * (N : Int) + 3).toNat = 4 * N + 3 by omega]
    skip
    have c1 : rC (x_uf (x_uf (x_uf (x_uf (x_uf g 107 N b) 108 (4 * N) p) 108 (4 * N + 1) q) 108 (4 * N + 2) r) 108 (4 * N + 3) s) y := hC.ot hN (fun a i q1 q2 => by rw [x_uf_ne (by omega), x_uf_ne (by omega), x_uf_ne (by omega), x_uf_ne (by omega), x_uf_ne (by omega)]) (fun j hj => by rw [x_uf_ne (by omega), x_uf_ne (by omega), x_uf_ne (by omega), x_uf_ne (by omega), x_uf_ne (by omega)]) (fun j hj => by rw [x_uf_ne (by omega), x_uf_ne (by omega), x_uf_ne (by omega), x_uf_ne (by omega), x_uf_ne (by omega)])
    have d0 : x_uf (x_uf (x_uf (x_uf (x_uf g 107 N b) 108 (4 * N) p) 108 (4 * N + 1) q) 108 (4 * N + 2) r) 108 (4 * N + 3) s 107 N = b := by rw [x_uf_ne (by omega), x_uf_ne (by omega), x_uf_ne (by omega), x_uf_ne (by omega), x_uf_eq]
    have d1 : x_uf (x_uf (x_uf (x_uf (x_uf g 107 N b) 108 (4 * N) p) 108 (4 * N + 1) q) 108 (4 * N + 2) r) 108 (4 * N + 3) s 108 (4 * N) = p := by rw [x_uf_ne (by omega), x_uf_ne (by omega), x_uf_ne (by omega), x_uf_eq]
    have d2 : x_uf (x_uf (x_uf (x_uf (x_uf g 107 N b) 108 (4 * N) p) 108 (4 * N + 1) q) 108 (4 * N + 2) r) 108 (4 * N + 3) s 108 (4 * N + 1) = q := by rw [x_uf_ne (by omega), x_uf_ne (by omega), x_uf_eq]
    have d3 : x_uf (x_uf (x_uf (x_uf (x_uf g 107 N b) 108 (4 * N) p) 108 (4 * N + 1) q) 108 (4 * N + 2) r) 108 (4 * N + 3) s 108 (4 * N + 2) = r := by rw [x_uf_ne (by omega), x_uf_eq]
    have d4 : x_uf (x_uf (x_uf (x_uf (x_uf g 107 N b) 108 (4 * N) p) 108 (4 * N + 1) q) 108 (4 * N + 2) r) 108 (4 * N + 3) s 108 (4 * N + 3) = s := x_uf_eq _ _ _ _
    have hF : rF g (x_uf (x_uf (x_uf (x_uf (x_uf g 107 N b) 108 (4 * N) p) 108 (4 * N + 1) q) 108 (4 * N + 2) r) 108 (4 * N + 3) s) := fun a i q => by rw [x_uf_ne (by omega), x_uf_ne (by omega), x_uf_ne (by omega), x_uf_ne (by omega), x_uf_ne (by omega)]
    generalize x_uf (x_uf (x_uf (x_uf (x_uf g 107 N b) 108 (4 * N) p) 108 (4 * N + 1) q) 108 (4 * N + 2) r) 108 (4 * N + 3) s = g1 at c1 d0 d1 d2 d3 d4 hF
    rw [eb] at d0
    have at2 := c1.1.at
    have k19 : g1 100 19 = y.1 6 := at2.2.2.2.1
    have k21 : g1 100 21 = (N : Int) := by rw [at2.2.1]; exact hN
    unfold rsend at h
    refine s98_76 rfl ?_
    refine s98_77 (by first | assumption | rfl) (by first | assumption | (exact hpo _) | rfl | decide) (by first | assumption | decide | omega) ?_
    rw [k19]
    refine s98_80 ⟨by omega, by omega⟩ (fun h80 => ?_) (fun h80 => ?_)
    · refine s98_99 rfl ?_
      refine s98_100 rfl ?_
      refine s98_101 (by first | assumption | rfl) (by first | assumption | (exact hpo _) | rfl | decide) (by first | assumption | decide | omega) ?_
      first
        | rw [k21]
        | rw [k21b]
      refine s98_104 ?_
      refine s98_105 ?_
      refine s98_106 (by first | assumption | rfl) (by first | assumption | (exact hpo _) | rfl | decide) (by first | assumption | decide | omega) ?_
      refine s98_109 (st := []) ?_
      first
        | (rw [if_pos (show y.1 6 = 0 by omega)] at h; exact h _ (c1.nx hN hl d0 d1 d2 d3 d4) (hF.tr (rF.u (by omega))))
        | (rw [if_neg (show ¬ y.1 6 = 0 by omega)] at h
           have c3 := c2.nx (t := t) (p := p) (q := q) (r := r) (s := s) hN hl (by rw [hG2 _ _ (by omega)]; exact d0) (by rw [hG2 _ _ (by omega)]; exact d1) (by rw [hG2 _ _ (by omega)]; exact d2) (by rw [hG2 _ _ (by omega)]; exact d3) (by rw [hG2 _ _ (by omega)]; exact d4)
           rw [rkeep_post] at c3
           exact h _ c3 ((hF.tr hG2.f).tr (rF.u (by omega))))
    · refine s98_83 rfl ?_
      refine s98_84 rfl ?_
      refine s98_85 rfl ?_
      refine s98_86 (by first | assumption | rfl) (by first | assumption | (exact hpo _) | rfl | decide) (by first | assumption | decide | omega) ?_
      rw [k21]
      refine s98_89 ?_
      refine s98_90 rfl ?_
      refine s98_91 rfl ?_
      refine s98_92 rfl ?_
      refine s98_94 rfl ?_
      refine s98_96 (by first | assumption | rfl) (by simp) ?_
      have ho := ho (by omega)
      rw [← emq]
      rw [← hN]
      refine c97 c1 hlen ho (fun g2 c2 hG2 => ?_)
      refine ⟨_, rfl, ?_⟩
      have k21b : g2 100 21 = (N : Int) := by rw [c2.1.at.2.1]; exact hN
      refine s98_99 rfl ?_
      refine s98_100 rfl ?_
      refine s98_101 (by first | assumption | rfl) (by first | assumption | (exact hpo _) | rfl | decide) (by first | assumption | decide | omega) ?_
      first
        | rw [k21]
        | rw [k21b]
      refine s98_104 ?_
      refine s98_105 ?_
      refine s98_106 (by first | assumption | rfl) (by first | assumption | (exact hpo _) | rfl | decide) (by first | assumption | decide | omega) ?_
      refine s98_109 (st := []) ?_
      first
        | (rw [if_pos (show y.1 6 = 0 by omega)] at h; exact h _ (c1.nx hN hl d0 d1 d2 d3 d4) (hF.tr (rF.u (by omega))))
        | (rw [if_neg (show ¬ y.1 6 = 0 by omega)] at h
           have c3 := c2.nx (t := t) (p := p) (q := q) (r := r) (s := s) hN hl (by rw [hG2 _ _ (by omega)]; exact d0) (by rw [hG2 _ _ (by omega)]; exact d1) (by rw [hG2 _ _ (by omega)]; exact d2) (by rw [hG2 _ _ (by omega)]; exact d3) (by rw [hG2 _ _ (by omega)]; exact d4)
           rw [rkeep_post] at c3
           exact h _ c3 ((hF.tr hG2.f).tr (rF.u (by omega))))
  refine s98_0 rfl ?_
  refine s98_1 (by first | assumption | rfl) (by first | assumption | (exact hpo _) | rfl | decide) ?_
  refine s98_4 rfl ?_
  refine s98_5 (by first | assumption | rfl) (by first | assumption | (exact hpo _) | rfl | decide) (by first | assumption | decide | omega) ?_
  rw [e21]
  refine s98_8 rfl ?_
  refine s98_9 ?_
  refine s98_11 ⟨by omega, by omega⟩ ⟨by omega, by omega⟩ (fun h11 => ?_) (fun h11 => ?_)
  · refine s98_18 ?_
    refine v_zast d98_19 (by first | assumption | rfl) (by omega) (by omega) (by omega) (by omega) (by first | assumption | (exact hpo _) | rfl | decide) (by first | assumption | decide | omega) ?_
    rw [Int.toNat_natCast]
    first
      | exact main 1 (if_pos (by omega)).symm
      | exact main 0 (if_neg (by omega)).symm
  · refine s98_14 ?_
    refine s98_15 ?_
    refine v_zast d98_19 (by first | assumption | rfl) (by omega) (by omega) (by omega) (by omega) (by first | assumption | (exact hpo _) | rfl | decide) (by first | assumption | decide | omega) ?_
    rw [Int.toNat_natCast]
    first
      | exact main 1 (if_pos (by omega)).symm
      | exact main 0 (if_neg (by omega)).symm
end MS
