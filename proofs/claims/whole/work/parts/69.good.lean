/-! 69.good: the reference checks the frame at hand. -/
section MP
variable {S : Nat × (Nat → Int32)} {μ : xM} {g : Nat → Nat → Int} {n : Nat} {Q : xQ} {f : Int → Int} {sz : Int} {l : List tK} {t : Int}
/-- what good leaves alone -/
def tV (g g' : Nat → Nat → Int) : Prop := ∀ a i, a ≠ 102 → a ≠ 103 → a ≠ 104 → ¬ (a = 100 ∧ (i = 4 ∨ (8 ≤ i ∧ i ≤ 14))) → g' a i = g a i
def tX (g g' : Nat → Nat → Int) : Prop := ∀ a j, ¬ (a = 100 ∧ 8 ≤ j ∧ j ≤ 14) → g' a j = g a j
theorem tX.u {j : Nat} {x : Int} (h : 8 ≤ j ∧ j ≤ 14) : tX g (x_uf g 100 j x) := fun a i q => x_uf_ne (by omega)
theorem tX.tr {g1 g2 : Nat → Nat → Int} (h1 : tX g g1) (h2 : tX g1 g2) : tX g g2 := fun a j q => (h2 a j q).trans (h1 a j q)
theorem tX.rf : tX g g := fun _ _ _ => rfl
theorem tW.x {g1 : Nat → Nat → Int} (h : tW g g1) : tX g g1 := fun a j q => h a j (by omega)
theorem tU.v {g1 g2 : Nat → Nat → Int} (h1 : tU g g1) (h2 : tX g1 g2) : tV g g2 := fun a i q1 q2 q3 q4 => (h2 a i (by omega)).trans (h1 a i q1 q2 q3 (by omega))
theorem tX.cF {g1 : Nat → Nat → Int} (h : tX g g1) (hF : tF g f sz) : tF g1 f sz :=
  ⟨by rw [h _ _ (by omega)]; exact hF.1, hF.2.1, fun p h1 h2 => by rw [h _ _ (by omega)]; exact hF.2.2.1 p h1 h2, hF.2.2.2⟩
theorem tX.cT {g1 : Nat → Nat → Int} (h : tX g g1) (hT : tT g l) : tT g1 l :=
  ⟨by rw [h _ _ (by omega)]; exact hT.1, fun i hi => by rw [h _ _ (by omega), h _ _ (by omega), h _ _ (by omega)]; exact hT.2 i hi⟩
/-- the values of the message at hand, of both sides -/
def tM (t a b c : Int) (w : Nat → Int) : Prop := (0 ≤ a ∧ a ≤ 999999) ∧ (0 ≤ b ∧ b ≤ 999999) ∧ (0 ≤ c ∧ c ≤ 999999) ∧ (t ≠ 48 → 0 < (x_fc t).toNat → a = w 0) ∧ (1 < (x_fc t).toNat → (t = 52 → (b = 89 ∧ w 1 = 1) ∨ (b = 78 ∧ w 1 = 0)) ∧ (t ≠ 52 → b = w 1)) ∧ (2 < (x_fc t).toNat → c = w 2)
theorem tR.m {w : Nat → Int} {a b c : Int} (h : tR t (x_fc t).toNat 3 w a b c) : tM t a b c w := by
  obtain ⟨a1, a2, a3, a4, a5, a6⟩ := h
  refine ⟨?_, ?_, ?_, fun _ q => (a1 (by omega) q).1, fun q => (a3 (by omega) q).2.2, fun q => (a5 (by omega) q).1⟩
  · by_cases q : 0 < (x_fc t).toNat
    · exact (a1 (by omega) q).2
    · have := a2 (by omega); omega
  · by_cases q : 1 < (x_fc t).toNat
    · exact ⟨(a3 (by omega) q).1, (a3 (by omega) q).2.1⟩
    · have := a4 (by omega); omega
  · by_cases q : 2 < (x_fc t).toNat
    · exact (a5 (by omega) q).2
    · have := a6 (by omega); omega
theorem x_fc48 : (x_fc 48).toNat = 1 := by decide
theorem k111 {u : Nat → Int} {g1 : Nat → Nat → Int} (hch : tCH f sz 0 l) (hF : tF g1 f sz) (hT : tT g1 l) (hc : tcl f l)
    (hY : ∀ t m d w a b c g', zscan f sz u = some (t, m, d, w) → tX g1 g' → rH g' t m d a b c → tM t a b c w → Q (.inl (some (.int (I 1)))) (x_vm g') n)
    (hN : zscan f sz u = none → ∀ g', tX g1 g' → Q (.inl (some (.int (I 0)))) (x_vm g') n) : x_V S 111 14 [some (.ref 100), none, none, none, none, none] [] (x_vm g1) n Q := by
  have hs := hF.2.1
  have hb := hF.2.2.2.1
  have hE : ∀ p, (0 ≤ p ∧ p < sz) ∨ f p = -1 := fun p => by have := hF.2.2.2.2 p; omega
  have hA := hch.tb hs.2
  have hl := hA.1
  have h5 := hc.1
  have hN0 : (∀ t m d w, tOK f l u t m d w → False) → ∀ g', tX g1 g' → Q (.inl (some (.int (I 0)))) (x_vm g') n := fun z => hN (by
    cases e : zscan f sz u with
    | none => rfl
    | some r =>
      obtain ⟨t, m, d, w⟩ := r
      exact absurd (zscan_e1 hE hch e) (z t m d w))
  have hN1 : ¬ (tlet f l 0 8 = 70 ∧ zpeer (tlet f l 2 35) ∧ 0 ≤ tnum f l 3 34 ∧ (((l.getD 4 tD).1 = 43 ∧ tlet f l 4 43 = 89) ∨ (l.getD 4 tD).1 ≠ 43)) → ∀ g', tX g1 g' → Q (.inl (some (.int (I 0)))) (x_vm g') n := fun z => hN0 (fun t m d w ok => by
    obtain ⟨o1, o2, o3, o4, o5, o6, o7⟩ := ok.i
    refine z ⟨o2, by rw [o3]; exact o4, by rw [o5]; exact o6, ?_⟩
    rcases o7 with q | q
    · exact Or.inl ⟨q.2.1, q.2.2.1⟩
    · exact Or.inr q.2.1)
  have b0 := tlet_b (l := l) (i := 0) (T := 8) hb
  have b2 := tlet_b (l := l) (i := 2) (T := 35) hb
  have b3 := tnum_b (f := f) (l := l) (i := 3) (T := 34)
  have b4 := tlet_b (l := l) (i := 4) (T := 43) hb
  have t4 := (hA.2 4 (by omega)).2.2.2
  have c0 : ∀ (m : Nat), (m : Int) = m := fun _ => rfl
  generalize ety : tlet f l 2 35 = ty at *
  generalize enm : tnum f l 3 34 = nm at *
  have tail : ∀ (d : Int) (i : Nat) (s : Int) (g5 : Nat → Nat → Int), ((d = 1 ∧ i = 5 ∧ (l.getD 4 tD).1 = 43 ∧ tlet f l 4 43 = 89) ∨ (d = 0 ∧ i = 4 ∧ (l.getD 4 tD).1 ≠ 43)) → ((s = 1 ∧ i + 1 < l.length) ∨ (s = 0 ∧ ¬ i + 1 < l.length)) → tlet f l 0 8 = 70 → zpeer ty → 0 ≤ nm → tX g1 g5 → g5 100 8 = ty → g5 100 9 = nm → g5 100 13 = d → g5 100 10 = 0 → g5 100 11 = 0 → g5 100 12 = 0 → g5 100 14 = s → x_V S 111 164 [some (.ref 100), some (.int (I i)), none, none, none, none] [] (x_vm g5) n Q := by
    intro d i s g5 hd hs' h0 ht hm hX e8 e9 e13 e10 e11 e12 e14
    have h3 := (x_tga ty (zpeer_m ht) 0).2.2.2
    have hi : i ≤ 5 := by omega
    have hfin : ∀ w x g', town f ty (x_fc ty).toNat 0 (l.drop i) u = some (w, [x]) → tM ty (g' 100 10) (g' 100 11) (g' 100 12) w → tW g5 g' → Q (.inl (some (.int (I 1)))) (x_vm g') n := by
      intro w x g' ho hM hW
      have ok : tOK f l u ty nm d w := by
        have hm := tOK.m (f := f) (l := l) (u := u) (w := w) (x := x) (d := d) hch hc h0 (by rw [ety]; exact ht) (by rw [enm]; exact hm) (by
          rw [ety]
          rcases hd with ⟨q1, q2, q3, q4⟩ | ⟨q1, q2, q3⟩
          · rw [q2] at ho
            exact Or.inl ⟨q1, q3, q4, ho⟩
          · rw [q2] at ho
            exact Or.inr ⟨q1, q3, ho⟩)
        rw [ety, enm] at hm
        exact hm
      exact hY ty nm d w _ _ _ g' (zscan_e2 hE hch ok) (hX.tr hW.x) ⟨by rw [hW _ _ (by omega)]; exact e8, by rw [hW _ _ (by omega)]; exact e9, by rw [hW _ _ (by omega)]; exact e13, rfl, rfl, rfl⟩ hM
    have hfn : (∀ w x, town f ty (x_fc ty).toNat 0 (l.drop i) u ≠ some (w, [x])) → ∀ g', tW g5 g' → Q (.inl (some (.int (I 0)))) (x_vm g') n := by
      intro z g' hW
      refine hN0 (fun t m d' w ok => ?_) g' (hX.tr hW.x)
      obtain ⟨o1, o2, o3, o4, o5, o6, o7⟩ := ok.i
      rw [ety] at o3
      rw [← o3] at o7
      rcases hd with ⟨q1, q2, q3, q4⟩ | ⟨q1, q2, q3⟩
      · rcases o7 with ⟨p1, p2, p3, x, p4⟩ | ⟨p1, p2, _⟩
        · rw [q2] at z
          exact z _ _ p4
        · exact p2 q3
      · rcases o7 with ⟨p1, p2, _⟩ | ⟨p1, p2, x, p4⟩
        · exact q3 p2
        · rw [q2] at z
          exact z _ _ p4
    have loop : (ty = 48 → i + 1 < l.length) → x_V S 111 186 [some (.ref 100), some (.int (I i)), some (.int (I 1)), some (.int (I (0 : Nat))), none, none] [] (x_vm g5) n Q := by
      intro h48
      refine l111s (l5 := l.drop i) (u := u) (hX.cF hF) (hX.cT hT) hA ht e8 x_fc48 (by omega) (fun i2 r2 v4 v5 g6 hW6 hi6 hJ6 => ?_) i 1 none none g5 tW.rf (by omega) (Or.inr ⟨rfl, fun q _ => h48 q, u, rfl, ⟨fun q => by omega, fun _ => e10, fun q => by omega, fun _ => e11, fun q => by omega, fun _ => e12⟩⟩)
      refine l111s (l5 := l.drop i) (u := u) (hX.cF hF) (hX.cT hT) hA ht e8 x_fc48 (by omega) (fun i2 r2 v4 v5 g6 hW6 hi6 hJ6 => ?_) i2 r2 v4 v5 g6 hW6 (by omega) hJ6
      refine l111s (l5 := l.drop i) (u := u) (hX.cF hF) (hX.cT hT) hA ht e8 x_fc48 (by omega) (fun i2 r2 v4 v5 g6 hW6 hi6 hJ6 => ?_) i2 r2 v4 v5 g6 hW6 (by omega) hJ6
      exact l111e (l5 := l.drop i) (u := u) (hX.cT hT) hA (fun w x g' z1 z2 z3 => hfin w x g' z1 z2.m z3) hfn h3 hW6 (by omega) hJ6
    have hbeat : ty = 48 → ¬ i + 1 < l.length → Q (.inl (some (.int (I 1)))) (x_vm g5) n := by
      intro q1 q2
      have h6 : (d = 1 → 6 ≤ l.length) := by
        intro z
        have hl5 : l.length ≠ 5 := fun e => by
          have e2 := hc.2.1
          rw [show l.length - 1 = 4 by omega] at e2
          omega
        omega
      have hil : i + 1 = l.length := by omega
      refine hfin (zup u 0 (-1)) (l.getD i tD) g5 ?_ ?_ tW.rf
      · rw [tdrop (by omega), List.drop_of_length_le (by omega), q1, x_fc48, town_c, if_neg (by
          have e2 := hc.2.1
          rw [show l.length - 1 = i by omega] at e2
          rw [e2]
          decide), if_pos rfl]
      · rw [e10, e11, e12]
        refine ⟨by omega, by omega, by omega, fun z => absurd q1 z, fun z => ?_, fun z => ?_⟩
        · rw [q1, x_fc48] at z
          omega
        · rw [q1, x_fc48] at z
          omega
    refine s111_164 rfl ?_
    refine s111_165 (by first | assumption | rfl) (by first | assumption | (exact hpo _) | rfl | decide) (by first | assumption | decide | omega) ?_
    rw [e8]
    refine s111_168 ?_
    refine s111_170 ⟨by omega, by omega⟩ ⟨by omega, by omega⟩ (fun h170 => ?_) (fun h170 => ?_)
    · refine s111_182 ?_
      refine s111_183 ?_
      refine s111_184 ?_
      refine s111_185 ?_
      exact loop (fun q => by omega)
    · refine s111_173 rfl ?_
      refine s111_174 (by first | assumption | rfl) (by first | assumption | (exact hpo _) | rfl | decide) (by first | assumption | decide | omega) ?_
      rw [e14]
      refine s111_177 ⟨by omega, by omega⟩ (fun h177 => ?_) (fun h177 => ?_)
      · refine s111_182 ?_
        refine s111_183 ?_
        refine s111_184 ?_
        refine s111_185 ?_
        exact loop (fun q => by omega)
      · refine s111_180 ?_
        refine s111_181 (st := []) (by omega) ?_
        exact hbeat (by omega) (by omega)
  have tail2 : ∀ (d : Int) (i : Nat) (g4 : Nat → Nat → Int), ((d = 1 ∧ i = 5 ∧ (l.getD 4 tD).1 = 43 ∧ tlet f l 4 43 = 89) ∨ (d = 0 ∧ i = 4 ∧ (l.getD 4 tD).1 ≠ 43)) → tlet f l 0 8 = 70 → zpeer ty → 0 ≤ nm → tX g1 g4 → g4 100 8 = ty → g4 100 9 = nm → g4 100 13 = d → x_V S 111 129 [some (.ref 100), none, none, none, none, none] [.int (I i)] (x_vm g4) n Q := by
    intro d i g4 hd h0 ht hm hX e8 e9 e13
    have e4 : g4 100 4 = l.length := (hX.cT hT).1
    refine s111_129 ?_
    refine s111_130 rfl ?_
    refine s111_131 ?_
    refine s111_132 (by first | assumption | rfl) (by first | assumption | (exact hpo _) | rfl | decide) (by first | assumption | decide | omega) ?_
    refine s111_135 rfl ?_
    refine s111_136 ?_
    refine s111_137 (by first | assumption | rfl) (by first | assumption | (exact hpo _) | rfl | decide) (by first | assumption | decide | omega) ?_
    refine s111_140 rfl ?_
    refine s111_141 ?_
    refine s111_142 (by first | assumption | rfl) (by first | assumption | (exact hpo _) | rfl | decide) (by first | assumption | decide | omega) ?_
    refine s111_145 rfl ?_
    refine s111_146 rfl ?_
    refine s111_147 rfl ?_
    refine s111_148 (by first | assumption | rfl) (by first | assumption | (exact hpo _) | rfl | decide) (by first | assumption | decide | omega) ?_
    rw [x_uf_ne (by omega), x_uf_ne (by omega), x_uf_ne (by omega), e4]
    refine s111_151 ?_
    refine s111_152 ?_
    refine s111_153 ⟨by omega, by omega⟩ ⟨by omega, by omega⟩ (fun h153 => ?_) (fun h153 => ?_)
    · refine s111_160 ?_
      refine s111_161 (by first | assumption | rfl) (by omega) (by first | assumption | (exact hpo _) | rfl | decide) (by first | assumption | decide | omega) ?_
      refine tail d i _ _ hd (by omega) h0 ht hm (hX.tr (((tX.u (by omega)).tr (tX.u (by omega))).tr ((tX.u (by omega)).tr (tX.u (by omega))))) ?_ ?_ ?_ ?_ ?_ ?_ (x_uf_eq _ _ _ _)
      · rw [x_uf_ne (by omega), x_uf_ne (by omega), x_uf_ne (by omega), x_uf_ne (by omega)]; exact e8
      · rw [x_uf_ne (by omega), x_uf_ne (by omega), x_uf_ne (by omega), x_uf_ne (by omega)]; exact e9
      · rw [x_uf_ne (by omega), x_uf_ne (by omega), x_uf_ne (by omega), x_uf_ne (by omega)]; exact e13
      · rw [x_uf_ne (by omega), x_uf_ne (by omega), x_uf_ne (by omega), x_uf_eq]
      · rw [x_uf_ne (by omega), x_uf_ne (by omega), x_uf_eq]
      · rw [x_uf_ne (by omega), x_uf_eq]
    · refine s111_156 ?_
      refine s111_157 ?_
      refine s111_161 (by first | assumption | rfl) (by omega) (by first | assumption | (exact hpo _) | rfl | decide) (by first | assumption | decide | omega) ?_
      refine tail d i _ _ hd (by omega) h0 ht hm (hX.tr (((tX.u (by omega)).tr (tX.u (by omega))).tr ((tX.u (by omega)).tr (tX.u (by omega))))) ?_ ?_ ?_ ?_ ?_ ?_ (x_uf_eq _ _ _ _)
      · rw [x_uf_ne (by omega), x_uf_ne (by omega), x_uf_ne (by omega), x_uf_ne (by omega)]; exact e8
      · rw [x_uf_ne (by omega), x_uf_ne (by omega), x_uf_ne (by omega), x_uf_ne (by omega)]; exact e9
      · rw [x_uf_ne (by omega), x_uf_ne (by omega), x_uf_ne (by omega), x_uf_ne (by omega)]; exact e13
      · rw [x_uf_ne (by omega), x_uf_ne (by omega), x_uf_ne (by omega), x_uf_eq]
      · rw [x_uf_ne (by omega), x_uf_ne (by omega), x_uf_eq]
      · rw [x_uf_ne (by omega), x_uf_eq]
  have tail3 : ∀ (g3 : Nat → Nat → Int), tlet f l 0 8 = 70 → zpeer ty → 0 ≤ nm → tX g1 g3 → g3 100 8 = ty → g3 100 9 = nm → x_V S 111 76 [some (.ref 100), none, none, none, none, none] [] (x_vm g3) n Q := by
    intro g3 h0 ht hm hX e8 e9
    have e41 : g3 102 4 = (l.getD 4 tD).1 := ((hX.cT hT).2 4 (by omega)).1
    have hXd : ∀ x, tX g1 (x_uf g3 100 13 x) := fun x => hX.tr (tX.u (by omega))
    have hgo : ∀ (d : Int) (i : Nat), ((d = 1 ∧ i = 5 ∧ (l.getD 4 tD).1 = 43 ∧ tlet f l 4 43 = 89) ∨ (d = 0 ∧ i = 4 ∧ (l.getD 4 tD).1 ≠ 43)) → x_V S 111 129 [some (.ref 100), none, none, none, none, none] [.int (I i)] (x_vm (x_uf g3 100 13 d)) n Q := fun d i hd => tail2 d i _ hd h0 ht hm (hXd d) (by rw [x_uf_ne (by omega)]; exact e8) (by rw [x_uf_ne (by omega)]; exact e9) (x_uf_eq _ _ _ _)
    refine s111_76 rfl ?_
    refine s111_77 rfl ?_
    refine s111_78 (by first | assumption | rfl) (by first | assumption | (exact hpo _) | rfl | decide) ?_
    refine s111_81 ?_
    refine v_iald d111_82 (by first | assumption | rfl) (by omega) (by omega) (by omega) (by first | assumption | (exact hpo _) | rfl | decide) (by first | assumption | decide | omega) ?_
    rw [show (4 : Int).toNat = 4 from rfl, e41]
    refine s111_83 ?_
    refine s111_85 ⟨by omega, by omega⟩ ⟨by omega, by omega⟩ (fun h85 => ?_) (fun h85 => ?_)
    · refine s111_92 ?_
      refine s111_93 (by first | assumption | rfl) (by omega) (by first | assumption | (exact hpo _) | rfl | decide) (by first | assumption | decide | omega) ?_
      refine s111_96 rfl ?_
      refine s111_97 (by first | assumption | rfl) (by first | assumption | (exact hpo _) | rfl | decide) (by first | assumption | decide | omega) ?_
      rw [x_uf_eq]
      refine s111_100 ⟨by omega, by omega⟩ (fun h100 => ?_) (fun h100 => ?_)
      · refine s111_117 rfl ?_
        refine s111_118 (by first | assumption | rfl) (by first | assumption | (exact hpo _) | rfl | decide) (by first | assumption | decide | omega) ?_
        rw [x_uf_eq]
        refine s111_121 ⟨by omega, by omega⟩ (fun h121 => ?_) (fun h121 => ?_)
        · refine s111_128 ?_
          first
            | (exfalso; omega)
            | exact hgo 1 5 (Or.inl ⟨rfl, rfl, by omega, by omega⟩)
            | exact hgo 0 4 (Or.inr ⟨rfl, rfl, by omega⟩)
        · refine s111_124 ?_
          refine s111_125 ?_
          first
            | (exfalso; omega)
            | exact hgo 1 5 (Or.inl ⟨rfl, rfl, by omega, by omega⟩)
            | exact hgo 0 4 (Or.inr ⟨rfl, rfl, by omega⟩)
      · refine s111_103 rfl ?_
        refine s111_104 ?_
        refine s111_105 ?_
        refine s111_107 (by first | assumption | rfl) (by simp) ?_
        refine c109 (i := 4) ((hXd _).cF hF) ((hXd _).cT hT) hA (by omega) ⟨by omega, by omega⟩ ?_
        refine ⟨_, rfl, ?_⟩
        refine s111_110 ?_
        refine s111_112 ⟨by omega, by omega⟩ ⟨by omega, by omega⟩ (fun h112 => ?_) (fun h112 => ?_)
        · refine s111_117 rfl ?_
          refine s111_118 (by first | assumption | rfl) (by first | assumption | (exact hpo _) | rfl | decide) (by first | assumption | decide | omega) ?_
          rw [x_uf_eq]
          refine s111_121 ⟨by omega, by omega⟩ (fun h121 => ?_) (fun h121 => ?_)
          · refine s111_128 ?_
            first
              | (exfalso; omega)
              | exact hgo 1 5 (Or.inl ⟨rfl, rfl, by omega, by omega⟩)
              | exact hgo 0 4 (Or.inr ⟨rfl, rfl, by omega⟩)
          · refine s111_124 ?_
            refine s111_125 ?_
            first
              | (exfalso; omega)
              | exact hgo 1 5 (Or.inl ⟨rfl, rfl, by omega, by omega⟩)
              | exact hgo 0 4 (Or.inr ⟨rfl, rfl, by omega⟩)
        · refine s111_115 ?_
          refine s111_116 (st := []) (by omega) ?_
          first | (exfalso; omega) | exact hN1 (fun z => by omega) _ (hXd _)
    · refine s111_88 ?_
      refine s111_89 ?_
      refine s111_93 (by first | assumption | rfl) (by omega) (by first | assumption | (exact hpo _) | rfl | decide) (by first | assumption | decide | omega) ?_
      refine s111_96 rfl ?_
      refine s111_97 (by first | assumption | rfl) (by first | assumption | (exact hpo _) | rfl | decide) (by first | assumption | decide | omega) ?_
      rw [x_uf_eq]
      refine s111_100 ⟨by omega, by omega⟩ (fun h100 => ?_) (fun h100 => ?_)
      · refine s111_117 rfl ?_
        refine s111_118 (by first | assumption | rfl) (by first | assumption | (exact hpo _) | rfl | decide) (by first | assumption | decide | omega) ?_
        rw [x_uf_eq]
        refine s111_121 ⟨by omega, by omega⟩ (fun h121 => ?_) (fun h121 => ?_)
        · refine s111_128 ?_
          first
            | (exfalso; omega)
            | exact hgo 1 5 (Or.inl ⟨rfl, rfl, by omega, by omega⟩)
            | exact hgo 0 4 (Or.inr ⟨rfl, rfl, by omega⟩)
        · refine s111_124 ?_
          refine s111_125 ?_
          first
            | (exfalso; omega)
            | exact hgo 1 5 (Or.inl ⟨rfl, rfl, by omega, by omega⟩)
            | exact hgo 0 4 (Or.inr ⟨rfl, rfl, by omega⟩)
      · refine s111_103 rfl ?_
        refine s111_104 ?_
        refine s111_105 ?_
        refine s111_107 (by first | assumption | rfl) (by simp) ?_
        refine c109 (i := 4) ((hXd _).cF hF) ((hXd _).cT hT) hA (by omega) ⟨by omega, by omega⟩ ?_
        refine ⟨_, rfl, ?_⟩
        refine s111_110 ?_
        refine s111_112 ⟨by omega, by omega⟩ ⟨by omega, by omega⟩ (fun h112 => ?_) (fun h112 => ?_)
        · refine s111_117 rfl ?_
          refine s111_118 (by first | assumption | rfl) (by first | assumption | (exact hpo _) | rfl | decide) (by first | assumption | decide | omega) ?_
          rw [x_uf_eq]
          refine s111_121 ⟨by omega, by omega⟩ (fun h121 => ?_) (fun h121 => ?_)
          · refine s111_128 ?_
            first
              | (exfalso; omega)
              | exact hgo 1 5 (Or.inl ⟨rfl, rfl, by omega, by omega⟩)
              | exact hgo 0 4 (Or.inr ⟨rfl, rfl, by omega⟩)
          · refine s111_124 ?_
            refine s111_125 ?_
            first
              | (exfalso; omega)
              | exact hgo 1 5 (Or.inl ⟨rfl, rfl, by omega, by omega⟩)
              | exact hgo 0 4 (Or.inr ⟨rfl, rfl, by omega⟩)
        · refine s111_115 ?_
          refine s111_116 (st := []) (by omega) ?_
          first | (exfalso; omega) | exact hN1 (fun z => by omega) _ (hXd _)
  refine s111_14 rfl ?_
  refine s111_15 ?_
  refine s111_16 ?_
  refine s111_18 (by first | assumption | rfl) (by simp) ?_
  refine c109 (i := 0) hF hT hA (by omega) ⟨by omega, by omega⟩ ?_
  refine ⟨_, rfl, ?_⟩
  refine s111_21 ?_
  refine s111_23 ⟨by omega, by omega⟩ ⟨by omega, by omega⟩ (fun h23 => ?_) (fun h23 => ?_)
  · refine s111_28 rfl ?_
    refine s111_29 rfl ?_
    refine s111_30 ?_
    refine s111_31 ?_
    refine s111_33 (by first | assumption | rfl) (by simp) ?_
    refine c109 (i := 2) hF hT hA (by omega) ⟨by omega, by omega⟩ ?_
    refine ⟨_, rfl, ?_⟩
    rw [ety]
    refine s111_36 (by first | assumption | rfl) (by first | assumption | (exact hpo _) | rfl | decide) (by first | assumption | decide | omega) ?_
    refine s111_39 rfl ?_
    refine s111_40 rfl ?_
    refine s111_41 ?_
    refine s111_42 ?_
    refine s111_44 (by first | assumption | rfl) (by simp) ?_
    have hX1 : tX g1 (x_uf g1 100 8 ty) := tX.u (by omega)
    refine c108 (i := 3) (hX1.cF hF) (hX1.cT hT) hA (by omega) ⟨by omega, by omega⟩ ?_
    refine ⟨_, rfl, ?_⟩
    rw [enm]
    refine s111_47 (by first | assumption | rfl) (by first | assumption | (exact hpo _) | rfl | decide) (by first | assumption | decide | omega) ?_
    have hX2 : tX g1 (x_uf (x_uf g1 100 8 ty) 100 9 nm) := (tX.u (by omega)).tr (tX.u (by omega))
    have e28 : x_uf (x_uf g1 100 8 ty) 100 9 nm 100 8 = ty := by rw [x_uf_ne (by omega), x_uf_eq]
    have e29 : x_uf (x_uf g1 100 8 ty) 100 9 nm 100 9 = nm := x_uf_eq _ _ _ _
    generalize x_uf (x_uf g1 100 8 ty) 100 9 nm = g2 at hX2 e28 e29 ⊢
    refine s111_50 rfl ?_
    refine s111_51 (by first | assumption | rfl) (by first | assumption | (exact hpo _) | rfl | decide) (by first | assumption | decide | omega) ?_
    rw [e28]
    refine s111_54 ⟨by omega, by omega⟩ (fun h54 => ?_) (fun h54 => ?_)
    · refine s111_74 ?_
      refine s111_75 (st := []) (by omega) ?_
      exact hN1 (fun z => by omega) _ hX2
    · refine s111_57 rfl ?_
      refine s111_58 (by first | assumption | rfl) (by first | assumption | (exact hpo _) | rfl | decide) (by first | assumption | decide | omega) ?_
      rw [e29]
      refine s111_61 ⟨by omega, by omega⟩ (fun h61 => ?_) (fun h61 => ?_)
      · refine s111_74 ?_
        refine s111_75 (st := []) (by omega) ?_
        exact hN1 (fun z => by omega) _ hX2
      · refine s111_64 rfl ?_
        refine s111_65 (by first | assumption | rfl) (by first | assumption | (exact hpo _) | rfl | decide) (by first | assumption | decide | omega) ?_
        rw [e28]
        refine s111_68 (by simp) ?_
        refine c102 ⟨by omega, by omega⟩ ?_
        refine ⟨_, rfl, ?_⟩
        generalize ez : (if zpeer ty then (1 : Int) else 0) = zz
        have hz : (zz = 1 ∧ zpeer ty) ∨ (zz = 0 ∧ ¬ zpeer ty) := by
          rw [← ez]
          split
          · exact Or.inl ⟨rfl, by assumption⟩
          · exact Or.inr ⟨rfl, by assumption⟩
        refine s111_71 ⟨by omega, by omega⟩ (fun h71 => ?_) (fun h71 => ?_)
        · exact tail3 _ (by omega) (by omega) (by omega) hX2 e28 e29
        · refine s111_74 ?_
          refine s111_75 (st := []) (by omega) ?_
          exact hN1 (fun z => by omega) _ hX2
  · refine s111_26 ?_
    refine s111_27 (st := []) (by omega) ?_
    exact hN1 (fun z => by omega) _ tX.rf
theorem c111 {u : Nat → Int} (hF : tF g f sz) (hY : ∀ t m d w a b c g', zscan f sz u = some (t, m, d, w) → tV g g' → rH g' t m d a b c → tM t a b c w → Q (.inl (some (.int (I 1)))) (x_vm g') n)
    (hN : zscan f sz u = none → ∀ g', tV g g' → Q (.inl (some (.int (I 0)))) (x_vm g') n) : x_V S 111 0 [some (.ref 100), none, none, none, none, none] [] (x_vm g) n Q := by
  have hE : ∀ p, (0 ≤ p ∧ p < sz) ∨ f p = -1 := fun p => by have := hF.2.2.2.2 p; omega
  refine s111_0 rfl ?_
  refine s111_1 (by first | assumption | rfl) (by simp) ?_
  refine c107 hF (fun l g1 hch hU hT => ?_) (fun hno g1 hU => ?_)
  · refine ⟨_, rfl, ?_⟩
    have hF1 := hU.cF hF
    have hA := hch.tb hF.2.1.2
    have fail : ¬ tcl f l → Q (.inl (some (.int (I 0)))) (x_vm g1) n := fun z => hN (by
      cases e : zscan f sz u with
      | none => rfl
      | some r =>
        obtain ⟨t, m, d, w⟩ := r
        exact absurd (zscan_e1 hE hch e).i.1 z) _ (hU.v tX.rf)
    refine s111_4 ⟨by omega, by omega⟩ (fun h => absurd h (by omega)) (fun _ => ?_)
    refine s111_7 rfl ?_
    refine s111_8 (by first | assumption | rfl) (by simp) ?_
    refine c110 hF1 hT hA (fun hc => ?_) (fun hc => ?_)
    · refine ⟨_, rfl, ?_⟩
      refine s111_11 ⟨by omega, by omega⟩ (fun h => absurd h (by omega)) (fun _ => ?_)
      exact k111 hch hF1 hT hc (fun t m d w a b c g' z1 z2 => hY t m d w a b c g' z1 (hU.v z2)) (fun z1 g' z2 => hN z1 g' (hU.v z2))
    · refine ⟨_, rfl, ?_⟩
      refine s111_11 ⟨by omega, by omega⟩ (fun h11 => ?_) (fun h11 => ?_)
      · refine s111_26 ?_
        refine s111_27 (st := []) (by omega) ?_
        exact fail hc
      · exfalso; omega
  · refine ⟨_, rfl, ?_⟩
    have hz : zscan f sz u = none := by
      cases e : zscan f sz u with
      | none => rfl
      | some r =>
        obtain ⟨l, hl⟩ := zscan_ch e
        exact absurd hl (hno l)
    refine s111_4 ⟨by omega, by omega⟩ (fun h4 => ?_) (fun h4 => ?_)
    · refine s111_26 ?_
      refine s111_27 (st := []) (by omega) ?_
      exact hN hz _ (hU.v tX.rf)
    · exfalso; omega
end MP
