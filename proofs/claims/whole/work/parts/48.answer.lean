/-! 48.answer: the reference answers a resend request as the class does. -/
section MS
variable {S : Nat × (Nat → Int32)} {μ : xM} {g : Nat → Nat → Int} {n : Nat} {Q : xQ} {y : yS} {B : Int}
theorem yans_skip {e u : Int} {ls : List yR} : ∀ (pre : List yR) (y : yS), (∀ r ∈ pre, r.1 < u) → yans e (pre ++ ls) y u = yans e ls y u
  | [], y, _ => rfl
  | r :: pre, y, h => by
    have hr := h r (List.mem_cons_self ..)
    rw [List.cons_append, yans, if_neg (by omega)]
    exact yans_skip pre y (fun r hr => h r (List.mem_cons_of_mem _ hr))
theorem yans_end {e u : Int} (hu : e < u) : ∀ (ls : List yR) (y : yS), yans e ls y u = y
  | [], y => by
    rw [yans]
    unfold ygap
    rw [if_neg (by omega)]
  | r :: ls, y => by
    rw [yans, if_neg (by omega)]
    exact yans_end hu ls y
theorem yans_far {e u : Int} : ∀ (ls : List yR) (y : yS), (∀ r ∈ ls, e < r.1) → yans e ls y u = ygap y u (e + 1)
  | [], y, _ => rfl
  | r :: ls, y, h => by
    have hr := h r (List.mem_cons_self ..)
    rw [yans, if_neg (by omega)]
    exact yans_far ls y (fun r hr => h r (List.mem_cons_of_mem _ hr))
theorem ygap_no {u v : Int} (h : ¬ u < v) : ygap y u v = y := if_neg h
theorem yans_gap {e u m : Int} {ls : List yR} (hum : u < m) (hl : ∀ r ∈ ls, m ≤ r.1) (hm : m = e + 1 ∨ (m ≤ e ∧ ∃ r ls', ls = r :: ls' ∧ r.1 = m)) : yans e ls y u = yans e ls (ypost y (52, u, 1, m, 1, 0, 0)) m := by
  rcases hm with q | ⟨q, r, ls', e1, e2⟩
  · rw [yans_far ls y (fun r hr => by have := hl r hr; omega), yans_end (by omega)]
    unfold ygap
    rw [if_pos (by omega), q]
  · rw [e1, yans, yans, if_pos (by omega), if_pos (by omega), e2, ygap_no (show ¬ m < m by omega)]
    unfold ygap
    rw [if_pos hum]
/-- the reports in order, below the next number, fit to be sent -/
def rL (l : List yR) : Prop := l.Pairwise (fun a b => a.1 < b.1) ∧ ∀ r ∈ l, rok (56, r.1, 1, r.2.1, r.2.2.1, r.2.2.2.1, r.2.2.2.2)
theorem l101 {a b e X : Int} {L : List yR} (hL : rL L) (he : 0 ≤ e ∧ e < X) (hX : X < 1600) :
    ∀ (d N : Nat) (y : yS) (g : Nat → Nat → Int) (pre ls : List yR) (w : Option Value), e + 1 - N ≤ d → 1 ≤ N → (N : Int) ≤ 1000000 → rC g y → y.2.2.1 = L → y.1 4 = X → L = pre ++ ls → (∀ r ∈ pre, r.1 < (N : Int)) → (∀ r ∈ ls, (N : Int) ≤ r.1) → y.2.1.length + d ≤ 100000 → (∀ g', rC g' (yans e ls y N) → rF g g' → Q (.inl none) (x_vm g') n) → x_V S 101 37 [some (.ref 100), some (.int (I a)), some (.int (I b)), some (.int (I e)), some (.int (I N)), w] [] (x_vm g) n Q := by
  have fin : ∀ (N : Nat) (y : yS) (g : Nat → Nat → Int) (ls : List yR) (w : Option Value), e < N → (N : Int) ≤ 1000000 → rC g y → (∀ g', rC g' (yans e ls y N) → rF g g' → Q (.inl none) (x_vm g') n) → x_V S 101 37 [some (.ref 100), some (.int (I a)), some (.int (I b)), some (.int (I e)), some (.int (I N)), w] [] (x_vm g) n Q := by
    intro N y g ls w h1 h2 hC h
    rw [yans_end h1] at h
    refine s101_37 rfl ?_
    refine s101_39 rfl ?_
    refine s101_40 ⟨by omega, by omega⟩ ⟨by omega, by omega⟩ (fun h40 => ?_) (fun h40 => ?_)
    · refine s101_158 (st := []) ?_
      exact h _ hC rF.rf
    · exfalso; omega
  intro d
  induction d with
  | zero =>
    intro N y g pre ls w h1 h2 h3 hC hy hx hp hpre hls hlen h
    exact fin N y g ls w (by omega) h3 hC h
  | succ d ih =>
    intro N y g pre ls w h1 h2 h3 hC hy hx hp hpre hls hlen h
    by_cases hN : e < N
    · exact fin N y g ls w hN h3 hC h
    · have c3 := hC.2.2.1
      rw [hx, hy] at c3
      have hcn := c3 N h2 (by omega)
      have bnd : g 107 N = 0 ∨ g 107 N = 1 := by
        rcases hcn with q | q
        · exact Or.inr q.1
        · exact Or.inl q.1
      have inner : ∀ (dd m : Nat) (w5 : Option Value), (m : Int) + dd = e + 1 → N ≤ m → (∀ j : Nat, N ≤ j → j < m → g 107 j = 0) → g 107 N = 0 → x_V S 101 114 [some (.ref 100), some (.int (I a)), some (.int (I b)), some (.int (I e)), some (.int (I N)), some (.int (I m))] [] (x_vm g) n Q := by
        have last : ∀ m : Nat, N < m → (m : Int) ≤ e + 1 → (∀ j : Nat, N ≤ j → j < m → g 107 j = 0) → (m = e + 1 ∨ ((m : Int) ≤ e ∧ g 107 m = 1)) → x_V S 101 136 [some (.ref 100), some (.int (I a)), some (.int (I b)), some (.int (I e)), some (.int (I N)), some (.int (I m))] [] (x_vm g) n Q := by
          intro m m1 m2 m3 m4
          have hlm : ∀ r ∈ ls, (m : Int) ≤ r.1 := by
            intro r hr
            have r1 := hls r hr
            by_cases c : (m : Int) ≤ r.1
            · exact c
            · exfalso
              have z := c3 r.1.toNat (by omega) (by omega)
              have z0 := m3 r.1.toNat (by omega) (by omega)
              rcases z with q | q
              · omega
              · exact q.2 r (by rw [hp]; exact List.mem_append_right _ hr) (by omega)
          have hm' : (m : Int) = e + 1 ∨ ((m : Int) ≤ e ∧ ∃ r ls', ls = r :: ls' ∧ r.1 = (m : Int)) := by
            rcases m4 with q | ⟨q1, q2⟩
            · exact Or.inl q
            · right
              refine ⟨q1, ?_⟩
              rcases c3 m (by omega) (by omega) with z | z
              · have zm := z.2
                rw [hp] at zm
                rcases List.mem_append.1 zm with z1 | z1
                · exfalso
                  have := hpre _ z1
                  simp only at this
                  omega
                · cases ls with
                  | nil => cases z1
                  | cons r ls' =>
                    refine ⟨r, ls', rfl, ?_⟩
                    rcases List.mem_cons.1 z1 with z2 | z2
                    · rw [← z2]
                    · exfalso
                      have hpw := hL.1
                      rw [hp] at hpw
                      have hpw2 := (List.pairwise_append.1 hpw).2.1
                      have := (List.pairwise_cons.1 hpw2).1 _ z2
                      have r1 := hlm r (List.mem_cons_self ..)
                      simp only at this
                      omega
              · omega
          rw [yans_gap (by omega) hlm hm'] at h
          have hrok : rok (52, (N : Int), 1, (m : Int), 1, 0, 0) := ⟨⟨(show (0 : Int) ≤ 52 ∧ (52 : Int) ≤ 127 by omega), (show 0 ≤ (N : Int) ∧ (N : Int) ≤ 999999 by omega), Or.inr rfl, (show -1 ≤ (m : Int) ∧ (m : Int) ≤ 999999 by omega), (show (-1 : Int) ≤ 1 ∧ (1 : Int) ≤ 999999 by omega), (show (-1 : Int) ≤ 0 ∧ (0 : Int) ≤ 999999 by omega), (show (-1 : Int) ≤ 0 ∧ (0 : Int) ≤ 999999 by omega), fun z => absurd (show (52 : Int) = 56 from z) (by decide)⟩, (show xty 52 by decide), fun _ => (show 0 ≤ (m : Int) by omega), (show (0 : Int) ≤ 1 by omega), Int.le_refl 0, Int.le_refl 0⟩
          refine s101_136 rfl ?_
          refine s101_137 ?_
          refine s101_139 rfl ?_
          refine s101_141 ?_
          refine s101_142 rfl ?_
          refine s101_144 ?_
          refine s101_146 ?_
          refine s101_147 ?_
          refine s101_148 (by first | assumption | rfl) (by simp) ?_
          refine c97 (q := 1) hC (by omega) hrok (fun g2 c2 hG2 => ?_)
          refine ⟨_, rfl, ?_⟩
          refine s101_151 rfl ?_
          refine s101_153 ?_
          refine s101_155 ?_
          exact ih m _ g2 pre ls _ (by omega) (by omega) (by omega) c2 hy hx hp (fun r hr => by have := hpre r hr; omega) hlm (by show (y.2.1 ++ [_]).length + d ≤ 100000; rw [ylen_app]; omega) (fun g' q1 q2 => h g' q1 (hG2.f.tr q2))
        intro dd
        induction dd with
        | zero =>
          intro m w5 m1 m2 m3 m0
          refine s101_114 rfl ?_
          refine s101_116 rfl ?_
          refine s101_117 ⟨by omega, by omega⟩ ⟨by omega, by omega⟩ (fun h117 => ?_) (fun h117 => ?_)
          · exact last m (by omega) (by omega) m3 (Or.inl (by omega))
          · exfalso; omega
        | succ dd ihd =>
          intro m w5 m1 m2 m3 m0
          have hb : g 107 m = 0 ∨ g 107 m = 1 := by
            rcases c3 m (by omega) (by omega) with q | q
            · exact Or.inr q.1
            · exact Or.inl q.1
          refine s101_114 rfl ?_
          refine s101_116 rfl ?_
          refine s101_117 ⟨by omega, by omega⟩ ⟨by omega, by omega⟩ (fun h117 => ?_) (fun h117 => ?_)
          · first
              | (exfalso; omega)
              | exact last m (by by_cases c : m = N; (rw [c] at h127; omega); omega) (by omega) m3 (Or.inr ⟨by omega, by omega⟩)
          · refine s101_120 rfl ?_
            refine s101_121 (by first | assumption | rfl) (by first | assumption | (exact hpo _) | rfl | decide) ?_
            refine s101_124 rfl ?_
            refine v_zald d101_126 (by first | assumption | rfl) (by omega) (by omega) (by omega) (by first | assumption | (exact hpo _) | rfl | decide) (by first | assumption | decide | omega) ?_
            rw [Int.toNat_natCast]
            refine s101_127 ⟨by omega, by omega⟩ (fun h127 => ?_) (fun h127 => ?_)
            · first
                | (exfalso; omega)
                | exact last m (by by_cases c : m = N; (rw [c] at h127; omega); omega) (by omega) m3 (Or.inr ⟨by omega, by omega⟩)
            · refine s101_130 rfl ?_
              refine s101_133 ?_
              exact ihd (m + 1) none (by omega) (by omega) (fun j q1 q2 => by by_cases c : j = m; (rw [c]; omega); exact m3 j q1 (by omega)) m0
      refine s101_37 rfl ?_
      refine s101_39 rfl ?_
      refine s101_40 ⟨by omega, by omega⟩ ⟨by omega, by omega⟩ (fun h40 => ?_) (fun h40 => ?_)
      · exfalso; omega
      · refine s101_43 rfl ?_
        refine s101_44 (by first | assumption | rfl) (by first | assumption | (exact hpo _) | rfl | decide) ?_
        refine s101_47 rfl ?_
        refine v_zald d101_49 (by first | assumption | rfl) (by omega) (by omega) (by omega) (by first | assumption | (exact hpo _) | rfl | decide) (by first | assumption | decide | omega) ?_
        rw [Int.toNat_natCast]
        refine s101_50 ⟨by omega, by omega⟩ (fun h50 => ?_) (fun h50 => ?_)
        · refine s101_110 rfl ?_
          refine s101_112 ?_
          exact inner (e + 1 - N).toNat N none (by omega) (Nat.le_refl _) (fun j q1 q2 => by omega) (by omega)
        · rcases hcn with q | q
          rotate_left
          · exfalso; omega
          have zm := q.2
          rw [hp] at zm
          have zls : ((N : Int), g 108 (4 * N), g 108 (4 * N + 1), g 108 (4 * N + 2), g 108 (4 * N + 3)) ∈ ls := by
            rcases List.mem_append.1 zm with z1 | z1
            · exfalso
              have := hpre _ z1
              simp only at this
              omega
            · exact z1
          have hpw := hL.1
          rw [hp] at hpw
          have hpw2 := (List.pairwise_append.1 hpw).2.1
          cases ls with
          | nil => cases zls
          | cons r ls' =>
            have hpc := List.pairwise_cons.1 hpw2
            have hr : r = ((N : Int), g 108 (4 * N), g 108 (4 * N + 1), g 108 (4 * N + 2), g 108 (4 * N + 3)) := by
              rcases List.mem_cons.1 zls with z2 | z2
              · exact z2.symm
              · exfalso
                have := hpc.1 _ z2
                have r1 := hls r (List.mem_cons_self ..)
                simp only at this
                omega
            have hro := hL.2 _ q.2
            simp only at hro
            rw [hr, yans, if_pos (show (N : Int) ≤ N ∧ (N : Int) ≤ e by omega), ygap_no (show ¬ (N : Int) < N by omega)] at h
            refine s101_53 rfl ?_
            refine s101_54 ?_
            refine s101_56 rfl ?_
            refine s101_58 ?_
            refine s101_59 rfl ?_
            refine s101_60 (by first | assumption | rfl) (by first | assumption | (exact hpo _) | rfl | decide) ?_
            refine s101_63 ?_
            refine s101_64 rfl ?_
            refine s101_66 ?_
            refine v_iald d101_67 (by first | assumption | rfl) (by omega) (by omega) (by omega) (by first | assumption | (exact hpo _) | rfl | decide) (by first | assumption | decide | omega) ?_
            rw [show ((4 : Int) * (N : Int)).toNat = 4 * N by omega]
            refine s101_68 rfl ?_
            refine s101_69 (by first | assumption | rfl) (by first | assumption | (exact hpo _) | rfl | decide) ?_
            refine s101_72 ?_
            refine s101_73 rfl ?_
            refine s101_75 ?_
            refine s101_76 ?_
            refine s101_77 ?_
            refine v_iald d101_78 (by first | assumption | rfl) (by omega) (by omega) (by omega) (by first | assumption | (exact hpo _) | rfl | decide) (by first | assumption | decide | omega) ?_
            rw [show ((4 : Int) * (N : Int) + 1).toNat = 4 * N + 1 by omega]
            refine s101_79 rfl ?_
            refine s101_80 (by first | assumption | rfl) (by first | assumption | (exact hpo _) | rfl | decide) ?_
            refine s101_83 ?_
            refine s101_84 rfl ?_
            refine s101_86 ?_
            refine s101_87 ?_
            refine s101_88 ?_
            refine v_iald d101_89 (by first | assumption | rfl) (by omega) (by omega) (by omega) (by first | assumption | (exact hpo _) | rfl | decide) (by first | assumption | decide | omega) ?_
            rw [show ((4 : Int) * (N : Int) + 2).toNat = 4 * N + 2 by omega]
            refine s101_90 rfl ?_
            refine s101_91 (by first | assumption | rfl) (by first | assumption | (exact hpo _) | rfl | decide) ?_
            refine s101_94 ?_
            refine s101_95 rfl ?_
            refine s101_97 ?_
            refine s101_98 ?_
            refine s101_99 ?_
            refine v_iald d101_100 (by first | assumption | rfl) (by omega) (by omega) (by omega) (by first | assumption | (exact hpo _) | rfl | decide) (by first | assumption | decide | omega) ?_
            rw [show ((4 : Int) * (N : Int) + 3).toNat = 4 * N + 3 by omega]
            refine s101_101 (by first | assumption | rfl) (by simp) ?_
            refine c97 hC (by omega) hro (fun g2 c2 hG2 => ?_)
            refine ⟨_, rfl, ?_⟩
            refine s101_104 rfl ?_
            refine s101_107 ?_
            refine ih (N + 1) _ g2 (pre ++ [r]) ls' _ (by omega) (by omega) (by omega) c2 hy hx (by rw [hp]; simp) (fun x hx => ?_) (fun x hx => ?_) (by show (y.2.1 ++ [_]).length + d ≤ 100000; rw [ylen_app]; omega) (fun g' q1 q2 => h g' q1 (hG2.f.tr q2))
            · rcases List.mem_append.1 hx with z | z
              · have := hpre x z; omega
              · rw [List.mem_singleton.1 z, hr]; show (N : Int) < (N : Int) + 1; omega
            · have := hpc.1 x hx
              rw [hr] at this
              simp only at this
              omega

theorem c101 {f t : Int} (hC : rC g y) (hP : rP y) (hL : rL y.2.2.1) (hlen : y.2.1.length ≤ 90000) (hf : 0 ≤ f ∧ f ≤ 999999) (ht : 0 ≤ t ∧ t ≤ 999999) (h : ∀ g', rC g' (yresend y f t) → rF g g' → Q (.inl none) (x_vm g') n) : x_V S 101 0 [some (.ref 100), some (.int (I f)), some (.int (I t)), none, none, none] [] (x_vm g) n Q := by
  have k21 : g 100 21 = y.1 4 := hC.1.at.2.1
  obtain ⟨h1, h2, h3, h4⟩ := hP
  have main : ∀ (e : Int) (N : Nat), 0 ≤ e → e < y.1 4 → 1 ≤ N → (N : Int) ≤ 1000000 → yresend y f t = yans e y.2.2.1 y N → x_V S 101 37 [some (.ref 100), some (.int (I f)), some (.int (I t)), some (.int (I e)), some (.int (I N)), none] [] (x_vm g) n Q := by
    intro e N e1 e2 n1 n2 er
    rw [er] at h
    -- the reports before N and those from N on
    have sp : ∀ l : List yR, l.Pairwise (fun a b => a.1 < b.1) → ∃ pre ls, l = pre ++ ls ∧ (∀ r ∈ pre, r.1 < (N : Int)) ∧ ∀ r ∈ ls, (N : Int) ≤ r.1 := by
      intro l
      induction l with
      | nil => intro _; exact ⟨[], [], rfl, fun r hr => (by cases hr), fun r hr => (by cases hr)⟩
      | cons r l ih =>
        intro hpw
        obtain ⟨p1, p2⟩ := List.pairwise_cons.1 hpw
        by_cases c : r.1 < (N : Int)
        · obtain ⟨pre, ls, q1, q2, q3⟩ := ih p2
          refine ⟨r :: pre, ls, by rw [q1]; rfl, fun x hx => ?_, q3⟩
          rcases List.mem_cons.1 hx with z | z
          · rw [z]; exact c
          · exact q2 x z
        · refine ⟨[], r :: l, rfl, fun x hx => (by cases hx), fun x hx => ?_⟩
          rcases List.mem_cons.1 hx with z | z
          · rw [z]; omega
          · have := p1 x z; omega
    obtain ⟨pre, ls, q1, q2, q3⟩ := sp _ hL.1
    have er2 : yans e y.2.2.1 y N = yans e ls y N := by
      rw [q1]
      exact yans_skip pre y q2
    rw [er2] at h
    exact l101 hL ⟨e1, e2⟩ h2.2 (e + 1 - N).toNat N y g pre ls none (by omega) n1 n2 hC rfl rfl q1 q2 q3 (by omega) h
  unfold yresend at main
  refine s101_0 rfl ?_
  refine s101_1 ⟨by omega, by omega⟩ (fun h1 => ?_) (fun h1 => ?_)
  · refine s101_14 rfl ?_
    refine s101_15 (by first | assumption | rfl) (by first | assumption | (exact hpo _) | rfl | decide) (by first | assumption | decide | omega) ?_
    rw [k21]
    refine s101_18 ?_
    refine s101_19 ?_
    refine s101_20 ?_
    refine s101_24 ?_
    refine s101_25 rfl ?_
    refine s101_26 ?_
    refine s101_27 ⟨by omega, by omega⟩ ⟨by omega, by omega⟩ (fun h27 => ?_) (fun h27 => ?_)
    · refine s101_34 rfl ?_
      refine s101_35 ?_
      first
        | (refine main _ 1 (by omega) (by omega) (by omega) (by omega) ?_
           rw [if_pos (show f < 1 by omega)]
           first
             | rw [if_pos (show t = 0 ∨ y.1 4 ≤ t by omega)]; rfl
             | rw [if_neg (show ¬ (t = 0 ∨ y.1 4 ≤ t) by omega)]; rfl)
        | (rw [show I f = I ((f.toNat : Nat) : Int) by rw [show ((f.toNat : Nat) : Int) = f by omega]] at main ⊢
           refine main _ f.toNat (by omega) (by omega) (by omega) (by omega) ?_
           rw [if_neg (show ¬ f < 1 by omega), show ((f.toNat : Nat) : Int) = f by omega]
           first
             | rw [if_pos (show t = 0 ∨ y.1 4 ≤ t by omega)]
             | rw [if_neg (show ¬ (t = 0 ∨ y.1 4 ≤ t) by omega)])
    · refine s101_30 ?_
      refine s101_31 ?_
      refine s101_35 ?_
      first
        | (refine main _ 1 (by omega) (by omega) (by omega) (by omega) ?_
           rw [if_pos (show f < 1 by omega)]
           first
             | rw [if_pos (show t = 0 ∨ y.1 4 ≤ t by omega)]; rfl
             | rw [if_neg (show ¬ (t = 0 ∨ y.1 4 ≤ t) by omega)]; rfl)
        | (rw [show I f = I ((f.toNat : Nat) : Int) by rw [show ((f.toNat : Nat) : Int) = f by omega]] at main ⊢
           refine main _ f.toNat (by omega) (by omega) (by omega) (by omega) ?_
           rw [if_neg (show ¬ f < 1 by omega), show ((f.toNat : Nat) : Int) = f by omega]
           first
             | rw [if_pos (show t = 0 ∨ y.1 4 ≤ t by omega)]
             | rw [if_neg (show ¬ (t = 0 ∨ y.1 4 ≤ t) by omega)])
  · refine s101_4 rfl ?_
    refine s101_5 rfl ?_
    refine s101_6 (by first | assumption | rfl) (by first | assumption | (exact hpo _) | rfl | decide) (by first | assumption | decide | omega) ?_
    rw [k21]
    refine s101_9 ?_
    refine s101_10 ?_
    refine s101_11 ⟨by omega, by omega⟩ ⟨by omega, by omega⟩ (fun h11 => ?_) (fun h11 => ?_)
    · refine s101_23 rfl ?_
      refine s101_24 ?_
      refine s101_25 rfl ?_
      refine s101_26 ?_
      refine s101_27 ⟨by omega, by omega⟩ ⟨by omega, by omega⟩ (fun h27 => ?_) (fun h27 => ?_)
      · refine s101_34 rfl ?_
        refine s101_35 ?_
        first
          | (refine main _ 1 (by omega) (by omega) (by omega) (by omega) ?_
             rw [if_pos (show f < 1 by omega)]
             first
               | rw [if_pos (show t = 0 ∨ y.1 4 ≤ t by omega)]; rfl
               | rw [if_neg (show ¬ (t = 0 ∨ y.1 4 ≤ t) by omega)]; rfl)
          | (rw [show I f = I ((f.toNat : Nat) : Int) by rw [show ((f.toNat : Nat) : Int) = f by omega]] at main ⊢
             refine main _ f.toNat (by omega) (by omega) (by omega) (by omega) ?_
             rw [if_neg (show ¬ f < 1 by omega), show ((f.toNat : Nat) : Int) = f by omega]
             first
               | rw [if_pos (show t = 0 ∨ y.1 4 ≤ t by omega)]
               | rw [if_neg (show ¬ (t = 0 ∨ y.1 4 ≤ t) by omega)])
      · refine s101_30 ?_
        refine s101_31 ?_
        refine s101_35 ?_
        first
          | (refine main _ 1 (by omega) (by omega) (by omega) (by omega) ?_
             rw [if_pos (show f < 1 by omega)]
             first
               | rw [if_pos (show t = 0 ∨ y.1 4 ≤ t by omega)]; rfl
               | rw [if_neg (show ¬ (t = 0 ∨ y.1 4 ≤ t) by omega)]; rfl)
          | (rw [show I f = I ((f.toNat : Nat) : Int) by rw [show ((f.toNat : Nat) : Int) = f by omega]] at main ⊢
             refine main _ f.toNat (by omega) (by omega) (by omega) (by omega) ?_
             rw [if_neg (show ¬ f < 1 by omega), show ((f.toNat : Nat) : Int) = f by omega]
             first
               | rw [if_pos (show t = 0 ∨ y.1 4 ≤ t by omega)]
               | rw [if_neg (show ¬ (t = 0 ∨ y.1 4 ≤ t) by omega)])
    · refine s101_14 rfl ?_
      refine s101_15 (by first | assumption | rfl) (by first | assumption | (exact hpo _) | rfl | decide) (by first | assumption | decide | omega) ?_
      rw [k21]
      refine s101_18 ?_
      refine s101_19 ?_
      refine s101_20 ?_
      refine s101_24 ?_
      refine s101_25 rfl ?_
      refine s101_26 ?_
      refine s101_27 ⟨by omega, by omega⟩ ⟨by omega, by omega⟩ (fun h27 => ?_) (fun h27 => ?_)
      · refine s101_34 rfl ?_
        refine s101_35 ?_
        first
          | (refine main _ 1 (by omega) (by omega) (by omega) (by omega) ?_
             rw [if_pos (show f < 1 by omega)]
             first
               | rw [if_pos (show t = 0 ∨ y.1 4 ≤ t by omega)]; rfl
               | rw [if_neg (show ¬ (t = 0 ∨ y.1 4 ≤ t) by omega)]; rfl)
          | (rw [show I f = I ((f.toNat : Nat) : Int) by rw [show ((f.toNat : Nat) : Int) = f by omega]] at main ⊢
             refine main _ f.toNat (by omega) (by omega) (by omega) (by omega) ?_
             rw [if_neg (show ¬ f < 1 by omega), show ((f.toNat : Nat) : Int) = f by omega]
             first
               | rw [if_pos (show t = 0 ∨ y.1 4 ≤ t by omega)]
               | rw [if_neg (show ¬ (t = 0 ∨ y.1 4 ≤ t) by omega)])
      · refine s101_30 ?_
        refine s101_31 ?_
        refine s101_35 ?_
        first
          | (refine main _ 1 (by omega) (by omega) (by omega) (by omega) ?_
             rw [if_pos (show f < 1 by omega)]
             first
               | rw [if_pos (show t = 0 ∨ y.1 4 ≤ t by omega)]; rfl
               | rw [if_neg (show ¬ (t = 0 ∨ y.1 4 ≤ t) by omega)]; rfl)
          | (rw [show I f = I ((f.toNat : Nat) : Int) by rw [show ((f.toNat : Nat) : Int) = f by omega]] at main ⊢
             refine main _ f.toNat (by omega) (by omega) (by omega) (by omega) ?_
             rw [if_neg (show ¬ f < 1 by omega), show ((f.toNat : Nat) : Int) = f by omega]
             first
               | rw [if_pos (show t = 0 ∨ y.1 4 ≤ t by omega)]
               | rw [if_neg (show ¬ (t = 0 ∨ y.1 4 ≤ t) by omega)])
end MS
