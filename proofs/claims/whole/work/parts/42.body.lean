/-! 42.body: the reference's own fields. -/
section MX
variable {S : Nat × (Nat → Int32)} {μ : xM} {g : Nat → Nat → Int} {n : Nat} {Q : xQ} {m : Bool} {k : Nat} {l : List Int}
abbrev xsg (t : Int) (i : Nat) : Prop := i = 1 ∧ (t = 52 ∨ t = 56)
def xfl (t : Int) (u : Nat → Int) (i : Nat) : List Int := if xsg t i then x_chf (x_tg t i) (u i) else x_nf (x_tg t i) (u i)
/-- the own fields as the reference writes them -/
def bw (t : Int) (u : Nat → Int) : Nat → Nat → List Int
  | 0, _ => []
  | d + 1, i => if x_tg t i = 0 ∨ u i < 0 then [] else xfl t u i ++ bw t u d (i + 1)
theorem x_chf_len (t v : Int) : ((x_chf t v).length : Int) = xpl t + 3 := by
  unfold x_chf xpl
  simp only [List.length_append, List.length_cons, List.length_nil]
  omega
theorem x_nf_len (t v : Int) : ((x_nf t v).length : Int) = xpl t + xpl v + 2 := by
  unfold x_nf xpl
  simp only [List.length_append, List.length_cons, List.length_nil]
  omega
theorem xpl3 {t : Int} (h0 : 0 ≤ t) (h1 : t < 1000) : xpl t ≤ 3 := by
  have := x_dk3 h0 h1
  unfold xpl
  omega
theorem l94 {t p q r s w : Int} (hm : mM g m k) (ht : xty t) (hp : -1 ≤ p ∧ p ≤ 999999) (hq : -1 ≤ q ∧ q ≤ 999999) (hr : -1 ≤ r ∧ r ≤ 999999) (hs : -1 ≤ s ∧ s ≤ 999999) (hw : w = 0 ∨ w = 1) :
    ∀ (d i : Nat) (l : List Int) (c : Int) (w9 w10 w11 : Option Value), i + d = 4 → 0 ≤ c → c + 11 * d ≤ 1000 → l.length + 11 * d + 3 ≤ 120 → Q (.inl (some (.int (I (c + (bw t (yv p q r s) d i).length))))) (x_vm (mw m k (if w = 1 then l ++ bw t (yv p q r s) d i else l) g)) n → x_V S 94 6 [some (.ref 100), some (.int (I t)), some (.int (I p)), some (.int (I q)), some (.int (I r)), some (.int (I s)), some (.int (I w)), some (.int (I c)), some (.int (I i)), w9, w10, w11] [] (x_vm (mw m k l g)) n Q := by
  intro d
  induction d with
  | zero =>
    intro i l c w9 w10 w11 hi c1 c2 hl h
    rw [bw, List.append_nil, ite_self, List.length_nil, Int.natCast_zero, Int.add_zero] at h
    refine s94_6 rfl ?_
    refine s94_8 ?_
    refine s94_9 ⟨by omega, by omega⟩ ⟨by omega, by omega⟩ (fun h9 => ?_) (fun h9 => ?_)
    · refine s94_167 rfl ?_
      refine s94_169 (st := []) ?_
      exact h
    · exfalso; omega
  | succ d ih =>
    intro i l c w9 w10 w11 hi c1 c2 hl h
    have hi4 : (i : Int) = 0 ∨ (i : Int) = 1 ∨ (i : Int) = 2 ∨ (i : Int) = 3 := by omega
    have tb := x_tg_b t i
    have htb : 48 ≤ t ∧ t ≤ 71 := by omega
    have ub : -1 ≤ yv p q r s i ∧ yv p q r s i ≤ 999999 := by
      unfold yv
      split
      · exact hp
      · split
        · exact hq
        · split
          · exact hr
          · exact hs
    rw [show bw t (yv p q r s) (d + 1) i = (if x_tg t i = 0 ∨ yv p q r s i < 0 then [] else xfl t (yv p q r s) i ++ bw t (yv p q r s) d (i + 1)) from rfl] at h
    have pC : ∀ b : Int, (b = 1 ∧ xsg t i) ∨ (b = 0 ∧ ¬ xsg t i) → x_V S 94 83 [some (.ref 100), some (.int (I t)), some (.int (I p)), some (.int (I q)), some (.int (I r)), some (.int (I s)), some (.int (I w)), some (.int (I c)), some (.int (I i)), some (.int (I (x_tg t i))), some (.int (I (yv p q r s i))), w11] [.int (I b)] (x_vm (mw m k l g)) n Q := by
      intro b hb
      have hx1 : b = 1 → xfl t (yv p q r s) i = x_chf (x_tg t i) (yv p q r s i) := fun e => if_pos (by omega)
      have hx0 : b = 0 → xfl t (yv p q r s) i = x_nf (x_tg t i) (yv p q r s i) := fun e => if_neg (by omega)
      generalize yv p q r s i = v at h ub hx1 hx0 ⊢
      refine s94_83 ?_
      refine s94_85 rfl ?_
      refine s94_87 ⟨by omega, by omega⟩ (fun h87 => ?_) (fun h87 => ?_)
      · refine s94_95 rfl ?_
        refine s94_97 (st := []) ?_
        rw [if_pos (show x_tg t i = 0 ∨ v < 0 by omega), List.append_nil, ite_self, List.length_nil, Int.natCast_zero, Int.add_zero] at h
        exact h
      · refine s94_90 rfl ?_
        refine s94_92 ⟨by omega, by omega⟩ (fun h92 => ?_) (fun h92 => ?_)
        · refine s94_98 rfl ?_
          refine s94_100 rfl ?_
          refine s94_102 ⟨by omega, by omega⟩ (fun h102 => ?_) (fun h102 => ?_)
          · refine s94_115 rfl ?_
            refine s94_117 rfl ?_
            refine s94_119 (by simp) ?_
            refine c93 ⟨by omega, by omega⟩ ⟨by omega, by omega⟩ ?_
            refine ⟨_, rfl, ?_⟩
            refine s94_122 ?_
            refine s94_123 ?_
            refine s94_125 rfl ?_
            refine s94_127 ⟨by omega, by omega⟩ (fun h127 => ?_) (fun h127 => ?_)
            · refine s94_143 rfl ?_
              refine s94_145 ⟨by omega, by omega⟩ (fun h145 => ?_) (fun h145 => ?_)
              · refine s94_161 rfl ?_
                refine s94_164 ?_
                rw [if_neg (show ¬ (x_tg t i = 0 ∨ v < 0) by omega)] at h
                have tl := xpl3 tb.1 (show x_tg t i < 1000 by omega)
                have vl := xpl_b (v := v)
                have ln := x_nf_len (x_tg t i) v
                have lc := x_chf_len (x_tg t i) v
                first
                  | (rw [if_neg (show ¬ w = 1 by omega)] at h
                     refine ih (i + 1) l _ _ _ _ (by omega) (by omega) (by omega) (by omega) ?_
                     rw [if_neg (show ¬ w = 1 by omega)]
                     rw [hx1 (by omega), List.length_append, Int.natCast_add, ← Int.add_assoc, lc] at h
                     exact h)
                  | (rw [if_neg (show ¬ w = 1 by omega)] at h
                     refine ih (i + 1) l _ _ _ _ (by omega) (by omega) (by omega) (by omega) ?_
                     rw [if_neg (show ¬ w = 1 by omega)]
                     rw [hx0 (by omega), List.length_append, Int.natCast_add, ← Int.add_assoc, ln] at h
                     exact h)
                  | (rw [if_pos (show w = 1 by omega)] at h
                     refine ih (i + 1) _ _ _ _ _ (by omega) (by omega) (by omega) (by rw [List.length_append]; omega) ?_
                     rw [if_pos (show w = 1 by omega)]
                     rw [hx1 (by omega), List.length_append, Int.natCast_add, ← Int.add_assoc, lc, ← List.append_assoc] at h
                     exact h)
                  | (rw [if_pos (show w = 1 by omega)] at h
                     refine ih (i + 1) _ _ _ _ _ (by omega) (by omega) (by omega) (by rw [List.length_append]; omega) ?_
                     rw [if_pos (show w = 1 by omega)]
                     rw [hx0 (by omega), List.length_append, Int.natCast_add, ← Int.add_assoc, ln, ← List.append_assoc] at h
                     exact h)
                  | (exfalso; omega)
              · refine s94_148 rfl ?_
                refine s94_150 ⟨by omega, by omega⟩ (fun h150 => ?_) (fun h150 => ?_)
                · refine s94_161 rfl ?_
                  refine s94_164 ?_
                  rw [if_neg (show ¬ (x_tg t i = 0 ∨ v < 0) by omega)] at h
                  have tl := xpl3 tb.1 (show x_tg t i < 1000 by omega)
                  have vl := xpl_b (v := v)
                  have ln := x_nf_len (x_tg t i) v
                  have lc := x_chf_len (x_tg t i) v
                  first
                    | (rw [if_neg (show ¬ w = 1 by omega)] at h
                       refine ih (i + 1) l _ _ _ _ (by omega) (by omega) (by omega) (by omega) ?_
                       rw [if_neg (show ¬ w = 1 by omega)]
                       rw [hx1 (by omega), List.length_append, Int.natCast_add, ← Int.add_assoc, lc] at h
                       exact h)
                    | (rw [if_neg (show ¬ w = 1 by omega)] at h
                       refine ih (i + 1) l _ _ _ _ (by omega) (by omega) (by omega) (by omega) ?_
                       rw [if_neg (show ¬ w = 1 by omega)]
                       rw [hx0 (by omega), List.length_append, Int.natCast_add, ← Int.add_assoc, ln] at h
                       exact h)
                    | (rw [if_pos (show w = 1 by omega)] at h
                       refine ih (i + 1) _ _ _ _ _ (by omega) (by omega) (by omega) (by rw [List.length_append]; omega) ?_
                       rw [if_pos (show w = 1 by omega)]
                       rw [hx1 (by omega), List.length_append, Int.natCast_add, ← Int.add_assoc, lc, ← List.append_assoc] at h
                       exact h)
                    | (rw [if_pos (show w = 1 by omega)] at h
                       refine ih (i + 1) _ _ _ _ _ (by omega) (by omega) (by omega) (by rw [List.length_append]; omega) ?_
                       rw [if_pos (show w = 1 by omega)]
                       rw [hx0 (by omega), List.length_append, Int.natCast_add, ← Int.add_assoc, ln, ← List.append_assoc] at h
                       exact h)
                    | (exfalso; omega)
                · refine s94_153 rfl ?_
                  refine s94_154 rfl ?_
                  refine s94_156 rfl ?_
                  refine s94_158 (by first | assumption | rfl) (by simp) ?_
                  refine c89 hm ⟨by omega, by omega⟩ ⟨by omega, by omega⟩ (by omega) ?_
                  refine ⟨_, rfl, ?_⟩
                  refine s94_161 rfl ?_
                  refine s94_164 ?_
                  rw [if_neg (show ¬ (x_tg t i = 0 ∨ v < 0) by omega)] at h
                  have tl := xpl3 tb.1 (show x_tg t i < 1000 by omega)
                  have vl := xpl_b (v := v)
                  have ln := x_nf_len (x_tg t i) v
                  have lc := x_chf_len (x_tg t i) v
                  first
                    | (rw [if_neg (show ¬ w = 1 by omega)] at h
                       refine ih (i + 1) l _ _ _ _ (by omega) (by omega) (by omega) (by omega) ?_
                       rw [if_neg (show ¬ w = 1 by omega)]
                       rw [hx1 (by omega), List.length_append, Int.natCast_add, ← Int.add_assoc, lc] at h
                       exact h)
                    | (rw [if_neg (show ¬ w = 1 by omega)] at h
                       refine ih (i + 1) l _ _ _ _ (by omega) (by omega) (by omega) (by omega) ?_
                       rw [if_neg (show ¬ w = 1 by omega)]
                       rw [hx0 (by omega), List.length_append, Int.natCast_add, ← Int.add_assoc, ln] at h
                       exact h)
                    | (rw [if_pos (show w = 1 by omega)] at h
                       refine ih (i + 1) _ _ _ _ _ (by omega) (by omega) (by omega) (by rw [List.length_append]; omega) ?_
                       rw [if_pos (show w = 1 by omega)]
                       rw [hx1 (by omega), List.length_append, Int.natCast_add, ← Int.add_assoc, lc, ← List.append_assoc] at h
                       exact h)
                    | (rw [if_pos (show w = 1 by omega)] at h
                       refine ih (i + 1) _ _ _ _ _ (by omega) (by omega) (by omega) (by rw [List.length_append]; omega) ?_
                       rw [if_pos (show w = 1 by omega)]
                       rw [hx0 (by omega), List.length_append, Int.natCast_add, ← Int.add_assoc, ln, ← List.append_assoc] at h
                       exact h)
                    | (exfalso; omega)
            · refine s94_130 rfl ?_
              refine s94_132 ⟨by omega, by omega⟩ (fun h132 => ?_) (fun h132 => ?_)
              · refine s94_143 rfl ?_
                refine s94_145 ⟨by omega, by omega⟩ (fun h145 => ?_) (fun h145 => ?_)
                · refine s94_161 rfl ?_
                  refine s94_164 ?_
                  rw [if_neg (show ¬ (x_tg t i = 0 ∨ v < 0) by omega)] at h
                  have tl := xpl3 tb.1 (show x_tg t i < 1000 by omega)
                  have vl := xpl_b (v := v)
                  have ln := x_nf_len (x_tg t i) v
                  have lc := x_chf_len (x_tg t i) v
                  first
                    | (rw [if_neg (show ¬ w = 1 by omega)] at h
                       refine ih (i + 1) l _ _ _ _ (by omega) (by omega) (by omega) (by omega) ?_
                       rw [if_neg (show ¬ w = 1 by omega)]
                       rw [hx1 (by omega), List.length_append, Int.natCast_add, ← Int.add_assoc, lc] at h
                       exact h)
                    | (rw [if_neg (show ¬ w = 1 by omega)] at h
                       refine ih (i + 1) l _ _ _ _ (by omega) (by omega) (by omega) (by omega) ?_
                       rw [if_neg (show ¬ w = 1 by omega)]
                       rw [hx0 (by omega), List.length_append, Int.natCast_add, ← Int.add_assoc, ln] at h
                       exact h)
                    | (rw [if_pos (show w = 1 by omega)] at h
                       refine ih (i + 1) _ _ _ _ _ (by omega) (by omega) (by omega) (by rw [List.length_append]; omega) ?_
                       rw [if_pos (show w = 1 by omega)]
                       rw [hx1 (by omega), List.length_append, Int.natCast_add, ← Int.add_assoc, lc, ← List.append_assoc] at h
                       exact h)
                    | (rw [if_pos (show w = 1 by omega)] at h
                       refine ih (i + 1) _ _ _ _ _ (by omega) (by omega) (by omega) (by rw [List.length_append]; omega) ?_
                       rw [if_pos (show w = 1 by omega)]
                       rw [hx0 (by omega), List.length_append, Int.natCast_add, ← Int.add_assoc, ln, ← List.append_assoc] at h
                       exact h)
                    | (exfalso; omega)
                · refine s94_148 rfl ?_
                  refine s94_150 ⟨by omega, by omega⟩ (fun h150 => ?_) (fun h150 => ?_)
                  · refine s94_161 rfl ?_
                    refine s94_164 ?_
                    rw [if_neg (show ¬ (x_tg t i = 0 ∨ v < 0) by omega)] at h
                    have tl := xpl3 tb.1 (show x_tg t i < 1000 by omega)
                    have vl := xpl_b (v := v)
                    have ln := x_nf_len (x_tg t i) v
                    have lc := x_chf_len (x_tg t i) v
                    first
                      | (rw [if_neg (show ¬ w = 1 by omega)] at h
                         refine ih (i + 1) l _ _ _ _ (by omega) (by omega) (by omega) (by omega) ?_
                         rw [if_neg (show ¬ w = 1 by omega)]
                         rw [hx1 (by omega), List.length_append, Int.natCast_add, ← Int.add_assoc, lc] at h
                         exact h)
                      | (rw [if_neg (show ¬ w = 1 by omega)] at h
                         refine ih (i + 1) l _ _ _ _ (by omega) (by omega) (by omega) (by omega) ?_
                         rw [if_neg (show ¬ w = 1 by omega)]
                         rw [hx0 (by omega), List.length_append, Int.natCast_add, ← Int.add_assoc, ln] at h
                         exact h)
                      | (rw [if_pos (show w = 1 by omega)] at h
                         refine ih (i + 1) _ _ _ _ _ (by omega) (by omega) (by omega) (by rw [List.length_append]; omega) ?_
                         rw [if_pos (show w = 1 by omega)]
                         rw [hx1 (by omega), List.length_append, Int.natCast_add, ← Int.add_assoc, lc, ← List.append_assoc] at h
                         exact h)
                      | (rw [if_pos (show w = 1 by omega)] at h
                         refine ih (i + 1) _ _ _ _ _ (by omega) (by omega) (by omega) (by rw [List.length_append]; omega) ?_
                         rw [if_pos (show w = 1 by omega)]
                         rw [hx0 (by omega), List.length_append, Int.natCast_add, ← Int.add_assoc, ln, ← List.append_assoc] at h
                         exact h)
                      | (exfalso; omega)
                  · refine s94_153 rfl ?_
                    refine s94_154 rfl ?_
                    refine s94_156 rfl ?_
                    refine s94_158 (by first | assumption | rfl) (by simp) ?_
                    refine c89 hm ⟨by omega, by omega⟩ ⟨by omega, by omega⟩ (by omega) ?_
                    refine ⟨_, rfl, ?_⟩
                    refine s94_161 rfl ?_
                    refine s94_164 ?_
                    rw [if_neg (show ¬ (x_tg t i = 0 ∨ v < 0) by omega)] at h
                    have tl := xpl3 tb.1 (show x_tg t i < 1000 by omega)
                    have vl := xpl_b (v := v)
                    have ln := x_nf_len (x_tg t i) v
                    have lc := x_chf_len (x_tg t i) v
                    first
                      | (rw [if_neg (show ¬ w = 1 by omega)] at h
                         refine ih (i + 1) l _ _ _ _ (by omega) (by omega) (by omega) (by omega) ?_
                         rw [if_neg (show ¬ w = 1 by omega)]
                         rw [hx1 (by omega), List.length_append, Int.natCast_add, ← Int.add_assoc, lc] at h
                         exact h)
                      | (rw [if_neg (show ¬ w = 1 by omega)] at h
                         refine ih (i + 1) l _ _ _ _ (by omega) (by omega) (by omega) (by omega) ?_
                         rw [if_neg (show ¬ w = 1 by omega)]
                         rw [hx0 (by omega), List.length_append, Int.natCast_add, ← Int.add_assoc, ln] at h
                         exact h)
                      | (rw [if_pos (show w = 1 by omega)] at h
                         refine ih (i + 1) _ _ _ _ _ (by omega) (by omega) (by omega) (by rw [List.length_append]; omega) ?_
                         rw [if_pos (show w = 1 by omega)]
                         rw [hx1 (by omega), List.length_append, Int.natCast_add, ← Int.add_assoc, lc, ← List.append_assoc] at h
                         exact h)
                      | (rw [if_pos (show w = 1 by omega)] at h
                         refine ih (i + 1) _ _ _ _ _ (by omega) (by omega) (by omega) (by rw [List.length_append]; omega) ?_
                         rw [if_pos (show w = 1 by omega)]
                         rw [hx0 (by omega), List.length_append, Int.natCast_add, ← Int.add_assoc, ln, ← List.append_assoc] at h
                         exact h)
                      | (exfalso; omega)
              · refine s94_135 rfl ?_
                refine s94_136 rfl ?_
                refine s94_138 rfl ?_
                refine s94_140 (by first | assumption | rfl) (by simp) ?_
                refine c90 hm ⟨by omega, by omega⟩ (by omega) ?_
                refine ⟨_, rfl, ?_⟩
                refine s94_143 rfl ?_
                refine s94_145 ⟨by omega, by omega⟩ (fun h145 => ?_) (fun h145 => ?_)
                · refine s94_161 rfl ?_
                  refine s94_164 ?_
                  rw [if_neg (show ¬ (x_tg t i = 0 ∨ v < 0) by omega)] at h
                  have tl := xpl3 tb.1 (show x_tg t i < 1000 by omega)
                  have vl := xpl_b (v := v)
                  have ln := x_nf_len (x_tg t i) v
                  have lc := x_chf_len (x_tg t i) v
                  first
                    | (rw [if_neg (show ¬ w = 1 by omega)] at h
                       refine ih (i + 1) l _ _ _ _ (by omega) (by omega) (by omega) (by omega) ?_
                       rw [if_neg (show ¬ w = 1 by omega)]
                       rw [hx1 (by omega), List.length_append, Int.natCast_add, ← Int.add_assoc, lc] at h
                       exact h)
                    | (rw [if_neg (show ¬ w = 1 by omega)] at h
                       refine ih (i + 1) l _ _ _ _ (by omega) (by omega) (by omega) (by omega) ?_
                       rw [if_neg (show ¬ w = 1 by omega)]
                       rw [hx0 (by omega), List.length_append, Int.natCast_add, ← Int.add_assoc, ln] at h
                       exact h)
                    | (rw [if_pos (show w = 1 by omega)] at h
                       refine ih (i + 1) _ _ _ _ _ (by omega) (by omega) (by omega) (by rw [List.length_append]; omega) ?_
                       rw [if_pos (show w = 1 by omega)]
                       rw [hx1 (by omega), List.length_append, Int.natCast_add, ← Int.add_assoc, lc, ← List.append_assoc] at h
                       exact h)
                    | (rw [if_pos (show w = 1 by omega)] at h
                       refine ih (i + 1) _ _ _ _ _ (by omega) (by omega) (by omega) (by rw [List.length_append]; omega) ?_
                       rw [if_pos (show w = 1 by omega)]
                       rw [hx0 (by omega), List.length_append, Int.natCast_add, ← Int.add_assoc, ln, ← List.append_assoc] at h
                       exact h)
                    | (exfalso; omega)
                · refine s94_148 rfl ?_
                  refine s94_150 ⟨by omega, by omega⟩ (fun h150 => ?_) (fun h150 => ?_)
                  · refine s94_161 rfl ?_
                    refine s94_164 ?_
                    rw [if_neg (show ¬ (x_tg t i = 0 ∨ v < 0) by omega)] at h
                    have tl := xpl3 tb.1 (show x_tg t i < 1000 by omega)
                    have vl := xpl_b (v := v)
                    have ln := x_nf_len (x_tg t i) v
                    have lc := x_chf_len (x_tg t i) v
                    first
                      | (rw [if_neg (show ¬ w = 1 by omega)] at h
                         refine ih (i + 1) l _ _ _ _ (by omega) (by omega) (by omega) (by omega) ?_
                         rw [if_neg (show ¬ w = 1 by omega)]
                         rw [hx1 (by omega), List.length_append, Int.natCast_add, ← Int.add_assoc, lc] at h
                         exact h)
                      | (rw [if_neg (show ¬ w = 1 by omega)] at h
                         refine ih (i + 1) l _ _ _ _ (by omega) (by omega) (by omega) (by omega) ?_
                         rw [if_neg (show ¬ w = 1 by omega)]
                         rw [hx0 (by omega), List.length_append, Int.natCast_add, ← Int.add_assoc, ln] at h
                         exact h)
                      | (rw [if_pos (show w = 1 by omega)] at h
                         refine ih (i + 1) _ _ _ _ _ (by omega) (by omega) (by omega) (by rw [List.length_append]; omega) ?_
                         rw [if_pos (show w = 1 by omega)]
                         rw [hx1 (by omega), List.length_append, Int.natCast_add, ← Int.add_assoc, lc, ← List.append_assoc] at h
                         exact h)
                      | (rw [if_pos (show w = 1 by omega)] at h
                         refine ih (i + 1) _ _ _ _ _ (by omega) (by omega) (by omega) (by rw [List.length_append]; omega) ?_
                         rw [if_pos (show w = 1 by omega)]
                         rw [hx0 (by omega), List.length_append, Int.natCast_add, ← Int.add_assoc, ln, ← List.append_assoc] at h
                         exact h)
                      | (exfalso; omega)
                  · refine s94_153 rfl ?_
                    refine s94_154 rfl ?_
                    refine s94_156 rfl ?_
                    refine s94_158 (by first | assumption | rfl) (by simp) ?_
                    refine c89 hm ⟨by omega, by omega⟩ ⟨by omega, by omega⟩ (by omega) ?_
                    refine ⟨_, rfl, ?_⟩
                    refine s94_161 rfl ?_
                    refine s94_164 ?_
                    rw [if_neg (show ¬ (x_tg t i = 0 ∨ v < 0) by omega)] at h
                    have tl := xpl3 tb.1 (show x_tg t i < 1000 by omega)
                    have vl := xpl_b (v := v)
                    have ln := x_nf_len (x_tg t i) v
                    have lc := x_chf_len (x_tg t i) v
                    first
                      | (rw [if_neg (show ¬ w = 1 by omega)] at h
                         refine ih (i + 1) l _ _ _ _ (by omega) (by omega) (by omega) (by omega) ?_
                         rw [if_neg (show ¬ w = 1 by omega)]
                         rw [hx1 (by omega), List.length_append, Int.natCast_add, ← Int.add_assoc, lc] at h
                         exact h)
                      | (rw [if_neg (show ¬ w = 1 by omega)] at h
                         refine ih (i + 1) l _ _ _ _ (by omega) (by omega) (by omega) (by omega) ?_
                         rw [if_neg (show ¬ w = 1 by omega)]
                         rw [hx0 (by omega), List.length_append, Int.natCast_add, ← Int.add_assoc, ln] at h
                         exact h)
                      | (rw [if_pos (show w = 1 by omega)] at h
                         refine ih (i + 1) _ _ _ _ _ (by omega) (by omega) (by omega) (by rw [List.length_append]; omega) ?_
                         rw [if_pos (show w = 1 by omega)]
                         rw [hx1 (by omega), List.length_append, Int.natCast_add, ← Int.add_assoc, lc, ← List.append_assoc] at h
                         exact h)
                      | (rw [if_pos (show w = 1 by omega)] at h
                         refine ih (i + 1) _ _ _ _ _ (by omega) (by omega) (by omega) (by rw [List.length_append]; omega) ?_
                         rw [if_pos (show w = 1 by omega)]
                         rw [hx0 (by omega), List.length_append, Int.natCast_add, ← Int.add_assoc, ln, ← List.append_assoc] at h
                         exact h)
                      | (exfalso; omega)
          · refine s94_105 rfl ?_
            refine s94_107 (by simp) ?_
            refine c91 ⟨by omega, by omega⟩ ?_
            refine ⟨_, rfl, ?_⟩
            refine s94_110 ?_
            refine s94_111 ?_
            refine s94_112 ?_
            refine s94_122 ?_
            refine s94_123 ?_
            refine s94_125 rfl ?_
            refine s94_127 ⟨by omega, by omega⟩ (fun h127 => ?_) (fun h127 => ?_)
            · refine s94_143 rfl ?_
              refine s94_145 ⟨by omega, by omega⟩ (fun h145 => ?_) (fun h145 => ?_)
              · refine s94_161 rfl ?_
                refine s94_164 ?_
                rw [if_neg (show ¬ (x_tg t i = 0 ∨ v < 0) by omega)] at h
                have tl := xpl3 tb.1 (show x_tg t i < 1000 by omega)
                have vl := xpl_b (v := v)
                have ln := x_nf_len (x_tg t i) v
                have lc := x_chf_len (x_tg t i) v
                first
                  | (rw [if_neg (show ¬ w = 1 by omega)] at h
                     refine ih (i + 1) l _ _ _ _ (by omega) (by omega) (by omega) (by omega) ?_
                     rw [if_neg (show ¬ w = 1 by omega)]
                     rw [hx1 (by omega), List.length_append, Int.natCast_add, ← Int.add_assoc, lc] at h
                     exact h)
                  | (rw [if_neg (show ¬ w = 1 by omega)] at h
                     refine ih (i + 1) l _ _ _ _ (by omega) (by omega) (by omega) (by omega) ?_
                     rw [if_neg (show ¬ w = 1 by omega)]
                     rw [hx0 (by omega), List.length_append, Int.natCast_add, ← Int.add_assoc, ln] at h
                     exact h)
                  | (rw [if_pos (show w = 1 by omega)] at h
                     refine ih (i + 1) _ _ _ _ _ (by omega) (by omega) (by omega) (by rw [List.length_append]; omega) ?_
                     rw [if_pos (show w = 1 by omega)]
                     rw [hx1 (by omega), List.length_append, Int.natCast_add, ← Int.add_assoc, lc, ← List.append_assoc] at h
                     exact h)
                  | (rw [if_pos (show w = 1 by omega)] at h
                     refine ih (i + 1) _ _ _ _ _ (by omega) (by omega) (by omega) (by rw [List.length_append]; omega) ?_
                     rw [if_pos (show w = 1 by omega)]
                     rw [hx0 (by omega), List.length_append, Int.natCast_add, ← Int.add_assoc, ln, ← List.append_assoc] at h
                     exact h)
                  | (exfalso; omega)
              · refine s94_148 rfl ?_
                refine s94_150 ⟨by omega, by omega⟩ (fun h150 => ?_) (fun h150 => ?_)
                · refine s94_161 rfl ?_
                  refine s94_164 ?_
                  rw [if_neg (show ¬ (x_tg t i = 0 ∨ v < 0) by omega)] at h
                  have tl := xpl3 tb.1 (show x_tg t i < 1000 by omega)
                  have vl := xpl_b (v := v)
                  have ln := x_nf_len (x_tg t i) v
                  have lc := x_chf_len (x_tg t i) v
                  first
                    | (rw [if_neg (show ¬ w = 1 by omega)] at h
                       refine ih (i + 1) l _ _ _ _ (by omega) (by omega) (by omega) (by omega) ?_
                       rw [if_neg (show ¬ w = 1 by omega)]
                       rw [hx1 (by omega), List.length_append, Int.natCast_add, ← Int.add_assoc, lc] at h
                       exact h)
                    | (rw [if_neg (show ¬ w = 1 by omega)] at h
                       refine ih (i + 1) l _ _ _ _ (by omega) (by omega) (by omega) (by omega) ?_
                       rw [if_neg (show ¬ w = 1 by omega)]
                       rw [hx0 (by omega), List.length_append, Int.natCast_add, ← Int.add_assoc, ln] at h
                       exact h)
                    | (rw [if_pos (show w = 1 by omega)] at h
                       refine ih (i + 1) _ _ _ _ _ (by omega) (by omega) (by omega) (by rw [List.length_append]; omega) ?_
                       rw [if_pos (show w = 1 by omega)]
                       rw [hx1 (by omega), List.length_append, Int.natCast_add, ← Int.add_assoc, lc, ← List.append_assoc] at h
                       exact h)
                    | (rw [if_pos (show w = 1 by omega)] at h
                       refine ih (i + 1) _ _ _ _ _ (by omega) (by omega) (by omega) (by rw [List.length_append]; omega) ?_
                       rw [if_pos (show w = 1 by omega)]
                       rw [hx0 (by omega), List.length_append, Int.natCast_add, ← Int.add_assoc, ln, ← List.append_assoc] at h
                       exact h)
                    | (exfalso; omega)
                · refine s94_153 rfl ?_
                  refine s94_154 rfl ?_
                  refine s94_156 rfl ?_
                  refine s94_158 (by first | assumption | rfl) (by simp) ?_
                  refine c89 hm ⟨by omega, by omega⟩ ⟨by omega, by omega⟩ (by omega) ?_
                  refine ⟨_, rfl, ?_⟩
                  refine s94_161 rfl ?_
                  refine s94_164 ?_
                  rw [if_neg (show ¬ (x_tg t i = 0 ∨ v < 0) by omega)] at h
                  have tl := xpl3 tb.1 (show x_tg t i < 1000 by omega)
                  have vl := xpl_b (v := v)
                  have ln := x_nf_len (x_tg t i) v
                  have lc := x_chf_len (x_tg t i) v
                  first
                    | (rw [if_neg (show ¬ w = 1 by omega)] at h
                       refine ih (i + 1) l _ _ _ _ (by omega) (by omega) (by omega) (by omega) ?_
                       rw [if_neg (show ¬ w = 1 by omega)]
                       rw [hx1 (by omega), List.length_append, Int.natCast_add, ← Int.add_assoc, lc] at h
                       exact h)
                    | (rw [if_neg (show ¬ w = 1 by omega)] at h
                       refine ih (i + 1) l _ _ _ _ (by omega) (by omega) (by omega) (by omega) ?_
                       rw [if_neg (show ¬ w = 1 by omega)]
                       rw [hx0 (by omega), List.length_append, Int.natCast_add, ← Int.add_assoc, ln] at h
                       exact h)
                    | (rw [if_pos (show w = 1 by omega)] at h
                       refine ih (i + 1) _ _ _ _ _ (by omega) (by omega) (by omega) (by rw [List.length_append]; omega) ?_
                       rw [if_pos (show w = 1 by omega)]
                       rw [hx1 (by omega), List.length_append, Int.natCast_add, ← Int.add_assoc, lc, ← List.append_assoc] at h
                       exact h)
                    | (rw [if_pos (show w = 1 by omega)] at h
                       refine ih (i + 1) _ _ _ _ _ (by omega) (by omega) (by omega) (by rw [List.length_append]; omega) ?_
                       rw [if_pos (show w = 1 by omega)]
                       rw [hx0 (by omega), List.length_append, Int.natCast_add, ← Int.add_assoc, ln, ← List.append_assoc] at h
                       exact h)
                    | (exfalso; omega)
            · refine s94_130 rfl ?_
              refine s94_132 ⟨by omega, by omega⟩ (fun h132 => ?_) (fun h132 => ?_)
              · refine s94_143 rfl ?_
                refine s94_145 ⟨by omega, by omega⟩ (fun h145 => ?_) (fun h145 => ?_)
                · refine s94_161 rfl ?_
                  refine s94_164 ?_
                  rw [if_neg (show ¬ (x_tg t i = 0 ∨ v < 0) by omega)] at h
                  have tl := xpl3 tb.1 (show x_tg t i < 1000 by omega)
                  have vl := xpl_b (v := v)
                  have ln := x_nf_len (x_tg t i) v
                  have lc := x_chf_len (x_tg t i) v
                  first
                    | (rw [if_neg (show ¬ w = 1 by omega)] at h
                       refine ih (i + 1) l _ _ _ _ (by omega) (by omega) (by omega) (by omega) ?_
                       rw [if_neg (show ¬ w = 1 by omega)]
                       rw [hx1 (by omega), List.length_append, Int.natCast_add, ← Int.add_assoc, lc] at h
                       exact h)
                    | (rw [if_neg (show ¬ w = 1 by omega)] at h
                       refine ih (i + 1) l _ _ _ _ (by omega) (by omega) (by omega) (by omega) ?_
                       rw [if_neg (show ¬ w = 1 by omega)]
                       rw [hx0 (by omega), List.length_append, Int.natCast_add, ← Int.add_assoc, ln] at h
                       exact h)
                    | (rw [if_pos (show w = 1 by omega)] at h
                       refine ih (i + 1) _ _ _ _ _ (by omega) (by omega) (by omega) (by rw [List.length_append]; omega) ?_
                       rw [if_pos (show w = 1 by omega)]
                       rw [hx1 (by omega), List.length_append, Int.natCast_add, ← Int.add_assoc, lc, ← List.append_assoc] at h
                       exact h)
                    | (rw [if_pos (show w = 1 by omega)] at h
                       refine ih (i + 1) _ _ _ _ _ (by omega) (by omega) (by omega) (by rw [List.length_append]; omega) ?_
                       rw [if_pos (show w = 1 by omega)]
                       rw [hx0 (by omega), List.length_append, Int.natCast_add, ← Int.add_assoc, ln, ← List.append_assoc] at h
                       exact h)
                    | (exfalso; omega)
                · refine s94_148 rfl ?_
                  refine s94_150 ⟨by omega, by omega⟩ (fun h150 => ?_) (fun h150 => ?_)
                  · refine s94_161 rfl ?_
                    refine s94_164 ?_
                    rw [if_neg (show ¬ (x_tg t i = 0 ∨ v < 0) by omega)] at h
                    have tl := xpl3 tb.1 (show x_tg t i < 1000 by omega)
                    have vl := xpl_b (v := v)
                    have ln := x_nf_len (x_tg t i) v
                    have lc := x_chf_len (x_tg t i) v
                    first
                      | (rw [if_neg (show ¬ w = 1 by omega)] at h
                         refine ih (i + 1) l _ _ _ _ (by omega) (by omega) (by omega) (by omega) ?_
                         rw [if_neg (show ¬ w = 1 by omega)]
                         rw [hx1 (by omega), List.length_append, Int.natCast_add, ← Int.add_assoc, lc] at h
                         exact h)
                      | (rw [if_neg (show ¬ w = 1 by omega)] at h
                         refine ih (i + 1) l _ _ _ _ (by omega) (by omega) (by omega) (by omega) ?_
                         rw [if_neg (show ¬ w = 1 by omega)]
                         rw [hx0 (by omega), List.length_append, Int.natCast_add, ← Int.add_assoc, ln] at h
                         exact h)
                      | (rw [if_pos (show w = 1 by omega)] at h
                         refine ih (i + 1) _ _ _ _ _ (by omega) (by omega) (by omega) (by rw [List.length_append]; omega) ?_
                         rw [if_pos (show w = 1 by omega)]
                         rw [hx1 (by omega), List.length_append, Int.natCast_add, ← Int.add_assoc, lc, ← List.append_assoc] at h
                         exact h)
                      | (rw [if_pos (show w = 1 by omega)] at h
                         refine ih (i + 1) _ _ _ _ _ (by omega) (by omega) (by omega) (by rw [List.length_append]; omega) ?_
                         rw [if_pos (show w = 1 by omega)]
                         rw [hx0 (by omega), List.length_append, Int.natCast_add, ← Int.add_assoc, ln, ← List.append_assoc] at h
                         exact h)
                      | (exfalso; omega)
                  · refine s94_153 rfl ?_
                    refine s94_154 rfl ?_
                    refine s94_156 rfl ?_
                    refine s94_158 (by first | assumption | rfl) (by simp) ?_
                    refine c89 hm ⟨by omega, by omega⟩ ⟨by omega, by omega⟩ (by omega) ?_
                    refine ⟨_, rfl, ?_⟩
                    refine s94_161 rfl ?_
                    refine s94_164 ?_
                    rw [if_neg (show ¬ (x_tg t i = 0 ∨ v < 0) by omega)] at h
                    have tl := xpl3 tb.1 (show x_tg t i < 1000 by omega)
                    have vl := xpl_b (v := v)
                    have ln := x_nf_len (x_tg t i) v
                    have lc := x_chf_len (x_tg t i) v
                    first
                      | (rw [if_neg (show ¬ w = 1 by omega)] at h
                         refine ih (i + 1) l _ _ _ _ (by omega) (by omega) (by omega) (by omega) ?_
                         rw [if_neg (show ¬ w = 1 by omega)]
                         rw [hx1 (by omega), List.length_append, Int.natCast_add, ← Int.add_assoc, lc] at h
                         exact h)
                      | (rw [if_neg (show ¬ w = 1 by omega)] at h
                         refine ih (i + 1) l _ _ _ _ (by omega) (by omega) (by omega) (by omega) ?_
                         rw [if_neg (show ¬ w = 1 by omega)]
                         rw [hx0 (by omega), List.length_append, Int.natCast_add, ← Int.add_assoc, ln] at h
                         exact h)
                      | (rw [if_pos (show w = 1 by omega)] at h
                         refine ih (i + 1) _ _ _ _ _ (by omega) (by omega) (by omega) (by rw [List.length_append]; omega) ?_
                         rw [if_pos (show w = 1 by omega)]
                         rw [hx1 (by omega), List.length_append, Int.natCast_add, ← Int.add_assoc, lc, ← List.append_assoc] at h
                         exact h)
                      | (rw [if_pos (show w = 1 by omega)] at h
                         refine ih (i + 1) _ _ _ _ _ (by omega) (by omega) (by omega) (by rw [List.length_append]; omega) ?_
                         rw [if_pos (show w = 1 by omega)]
                         rw [hx0 (by omega), List.length_append, Int.natCast_add, ← Int.add_assoc, ln, ← List.append_assoc] at h
                         exact h)
                      | (exfalso; omega)
              · refine s94_135 rfl ?_
                refine s94_136 rfl ?_
                refine s94_138 rfl ?_
                refine s94_140 (by first | assumption | rfl) (by simp) ?_
                refine c90 hm ⟨by omega, by omega⟩ (by omega) ?_
                refine ⟨_, rfl, ?_⟩
                refine s94_143 rfl ?_
                refine s94_145 ⟨by omega, by omega⟩ (fun h145 => ?_) (fun h145 => ?_)
                · refine s94_161 rfl ?_
                  refine s94_164 ?_
                  rw [if_neg (show ¬ (x_tg t i = 0 ∨ v < 0) by omega)] at h
                  have tl := xpl3 tb.1 (show x_tg t i < 1000 by omega)
                  have vl := xpl_b (v := v)
                  have ln := x_nf_len (x_tg t i) v
                  have lc := x_chf_len (x_tg t i) v
                  first
                    | (rw [if_neg (show ¬ w = 1 by omega)] at h
                       refine ih (i + 1) l _ _ _ _ (by omega) (by omega) (by omega) (by omega) ?_
                       rw [if_neg (show ¬ w = 1 by omega)]
                       rw [hx1 (by omega), List.length_append, Int.natCast_add, ← Int.add_assoc, lc] at h
                       exact h)
                    | (rw [if_neg (show ¬ w = 1 by omega)] at h
                       refine ih (i + 1) l _ _ _ _ (by omega) (by omega) (by omega) (by omega) ?_
                       rw [if_neg (show ¬ w = 1 by omega)]
                       rw [hx0 (by omega), List.length_append, Int.natCast_add, ← Int.add_assoc, ln] at h
                       exact h)
                    | (rw [if_pos (show w = 1 by omega)] at h
                       refine ih (i + 1) _ _ _ _ _ (by omega) (by omega) (by omega) (by rw [List.length_append]; omega) ?_
                       rw [if_pos (show w = 1 by omega)]
                       rw [hx1 (by omega), List.length_append, Int.natCast_add, ← Int.add_assoc, lc, ← List.append_assoc] at h
                       exact h)
                    | (rw [if_pos (show w = 1 by omega)] at h
                       refine ih (i + 1) _ _ _ _ _ (by omega) (by omega) (by omega) (by rw [List.length_append]; omega) ?_
                       rw [if_pos (show w = 1 by omega)]
                       rw [hx0 (by omega), List.length_append, Int.natCast_add, ← Int.add_assoc, ln, ← List.append_assoc] at h
                       exact h)
                    | (exfalso; omega)
                · refine s94_148 rfl ?_
                  refine s94_150 ⟨by omega, by omega⟩ (fun h150 => ?_) (fun h150 => ?_)
                  · refine s94_161 rfl ?_
                    refine s94_164 ?_
                    rw [if_neg (show ¬ (x_tg t i = 0 ∨ v < 0) by omega)] at h
                    have tl := xpl3 tb.1 (show x_tg t i < 1000 by omega)
                    have vl := xpl_b (v := v)
                    have ln := x_nf_len (x_tg t i) v
                    have lc := x_chf_len (x_tg t i) v
                    first
                      | (rw [if_neg (show ¬ w = 1 by omega)] at h
                         refine ih (i + 1) l _ _ _ _ (by omega) (by omega) (by omega) (by omega) ?_
                         rw [if_neg (show ¬ w = 1 by omega)]
                         rw [hx1 (by omega), List.length_append, Int.natCast_add, ← Int.add_assoc, lc] at h
                         exact h)
                      | (rw [if_neg (show ¬ w = 1 by omega)] at h
                         refine ih (i + 1) l _ _ _ _ (by omega) (by omega) (by omega) (by omega) ?_
                         rw [if_neg (show ¬ w = 1 by omega)]
                         rw [hx0 (by omega), List.length_append, Int.natCast_add, ← Int.add_assoc, ln] at h
                         exact h)
                      | (rw [if_pos (show w = 1 by omega)] at h
                         refine ih (i + 1) _ _ _ _ _ (by omega) (by omega) (by omega) (by rw [List.length_append]; omega) ?_
                         rw [if_pos (show w = 1 by omega)]
                         rw [hx1 (by omega), List.length_append, Int.natCast_add, ← Int.add_assoc, lc, ← List.append_assoc] at h
                         exact h)
                      | (rw [if_pos (show w = 1 by omega)] at h
                         refine ih (i + 1) _ _ _ _ _ (by omega) (by omega) (by omega) (by rw [List.length_append]; omega) ?_
                         rw [if_pos (show w = 1 by omega)]
                         rw [hx0 (by omega), List.length_append, Int.natCast_add, ← Int.add_assoc, ln, ← List.append_assoc] at h
                         exact h)
                      | (exfalso; omega)
                  · refine s94_153 rfl ?_
                    refine s94_154 rfl ?_
                    refine s94_156 rfl ?_
                    refine s94_158 (by first | assumption | rfl) (by simp) ?_
                    refine c89 hm ⟨by omega, by omega⟩ ⟨by omega, by omega⟩ (by omega) ?_
                    refine ⟨_, rfl, ?_⟩
                    refine s94_161 rfl ?_
                    refine s94_164 ?_
                    rw [if_neg (show ¬ (x_tg t i = 0 ∨ v < 0) by omega)] at h
                    have tl := xpl3 tb.1 (show x_tg t i < 1000 by omega)
                    have vl := xpl_b (v := v)
                    have ln := x_nf_len (x_tg t i) v
                    have lc := x_chf_len (x_tg t i) v
                    first
                      | (rw [if_neg (show ¬ w = 1 by omega)] at h
                         refine ih (i + 1) l _ _ _ _ (by omega) (by omega) (by omega) (by omega) ?_
                         rw [if_neg (show ¬ w = 1 by omega)]
                         rw [hx1 (by omega), List.length_append, Int.natCast_add, ← Int.add_assoc, lc] at h
                         exact h)
                      | (rw [if_neg (show ¬ w = 1 by omega)] at h
                         refine ih (i + 1) l _ _ _ _ (by omega) (by omega) (by omega) (by omega) ?_
                         rw [if_neg (show ¬ w = 1 by omega)]
                         rw [hx0 (by omega), List.length_append, Int.natCast_add, ← Int.add_assoc, ln] at h
                         exact h)
                      | (rw [if_pos (show w = 1 by omega)] at h
                         refine ih (i + 1) _ _ _ _ _ (by omega) (by omega) (by omega) (by rw [List.length_append]; omega) ?_
                         rw [if_pos (show w = 1 by omega)]
                         rw [hx1 (by omega), List.length_append, Int.natCast_add, ← Int.add_assoc, lc, ← List.append_assoc] at h
                         exact h)
                      | (rw [if_pos (show w = 1 by omega)] at h
                         refine ih (i + 1) _ _ _ _ _ (by omega) (by omega) (by omega) (by rw [List.length_append]; omega) ?_
                         rw [if_pos (show w = 1 by omega)]
                         rw [hx0 (by omega), List.length_append, Int.natCast_add, ← Int.add_assoc, ln, ← List.append_assoc] at h
                         exact h)
                      | (exfalso; omega)
        · refine s94_95 rfl ?_
          refine s94_97 (st := []) ?_
          rw [if_pos (show x_tg t i = 0 ∨ v < 0 by omega), List.append_nil, ite_self, List.length_nil, Int.natCast_zero, Int.add_zero] at h
          exact h
    have pB : ∀ v : Int, v = yv p q r s i → x_V S 94 52 [some (.ref 100), some (.int (I t)), some (.int (I p)), some (.int (I q)), some (.int (I r)), some (.int (I s)), some (.int (I w)), some (.int (I c)), some (.int (I i)), some (.int (I (x_tg t i))), w10, w11] [.int (I v)] (x_vm (mw m k l g)) n Q := by
      intro v ev
      rw [ev]
      refine s94_52 ?_
      refine s94_54 rfl ?_
      refine s94_55 ?_
      refine s94_57 ⟨by omega, by omega⟩ ⟨by omega, by omega⟩ (fun h57 => ?_) (fun h57 => ?_)
      · refine s94_66 rfl ?_
        refine s94_67 ?_
        refine s94_69 ⟨by omega, by omega⟩ ⟨by omega, by omega⟩ (fun h69 => ?_) (fun h69 => ?_)
        · refine s94_82 ?_
          first
            | exact pC 1 (Or.inl ⟨rfl, by omega⟩)
            | exact pC 0 (Or.inr ⟨rfl, by omega⟩)
        · refine s94_72 rfl ?_
          refine s94_74 ?_
          refine s94_75 ⟨by omega, by omega⟩ ⟨by omega, by omega⟩ (fun h75 => ?_) (fun h75 => ?_)
          · refine s94_82 ?_
            first
              | exact pC 1 (Or.inl ⟨rfl, by omega⟩)
              | exact pC 0 (Or.inr ⟨rfl, by omega⟩)
          · refine s94_78 ?_
            refine s94_79 ?_
            first
              | exact pC 1 (Or.inl ⟨rfl, by omega⟩)
              | exact pC 0 (Or.inr ⟨rfl, by omega⟩)
      · refine s94_60 rfl ?_
        refine s94_62 ?_
        refine s94_63 ⟨by omega, by omega⟩ ⟨by omega, by omega⟩ (fun h63 => ?_) (fun h63 => ?_)
        · refine s94_78 ?_
          refine s94_79 ?_
          first
            | exact pC 1 (Or.inl ⟨rfl, by omega⟩)
            | exact pC 0 (Or.inr ⟨rfl, by omega⟩)
        · refine s94_66 rfl ?_
          refine s94_67 ?_
          refine s94_69 ⟨by omega, by omega⟩ ⟨by omega, by omega⟩ (fun h69 => ?_) (fun h69 => ?_)
          · refine s94_82 ?_
            first
              | exact pC 1 (Or.inl ⟨rfl, by omega⟩)
              | exact pC 0 (Or.inr ⟨rfl, by omega⟩)
          · refine s94_72 rfl ?_
            refine s94_74 ?_
            refine s94_75 ⟨by omega, by omega⟩ ⟨by omega, by omega⟩ (fun h75 => ?_) (fun h75 => ?_)
            · refine s94_82 ?_
              first
                | exact pC 1 (Or.inl ⟨rfl, by omega⟩)
                | exact pC 0 (Or.inr ⟨rfl, by omega⟩)
            · refine s94_78 ?_
              refine s94_79 ?_
              first
                | exact pC 1 (Or.inl ⟨rfl, by omega⟩)
                | exact pC 0 (Or.inr ⟨rfl, by omega⟩)
    refine s94_6 rfl ?_
    refine s94_8 ?_
    refine s94_9 ⟨by omega, by omega⟩ ⟨by omega, by omega⟩ (fun h9 => ?_) (fun h9 => ?_)
    · exfalso; omega
    · refine s94_12 rfl ?_
      refine s94_13 rfl ?_
      refine s94_15 (by simp) ?_
      refine c95 ht hi4 ?_
      refine ⟨_, rfl, ?_⟩
      refine s94_18 ?_
      refine s94_20 rfl ?_
      refine s94_22 ⟨by omega, by omega⟩ (fun h22 => ?_) (fun h22 => ?_)
      · refine s94_29 rfl ?_
        refine s94_31 ?_
        refine s94_32 ⟨by omega, by omega⟩ ⟨by omega, by omega⟩ (fun h32 => ?_) (fun h32 => ?_)
        · refine s94_39 rfl ?_
          refine s94_41 ?_
          refine s94_42 ⟨by omega, by omega⟩ ⟨by omega, by omega⟩ (fun h42 => ?_) (fun h42 => ?_)
          · refine s94_50 rfl ?_
            first | exact pB _ (by unfold yv; rw [if_pos (by omega)]) | exact pB _ (by unfold yv; rw [if_neg (by omega), if_pos (by omega)]) | exact pB _ (by unfold yv; rw [if_neg (by omega), if_neg (by omega), if_pos (by omega)]) | exact pB _ (by unfold yv; rw [if_neg (by omega), if_neg (by omega), if_neg (by omega)])
          · refine s94_45 rfl ?_
            refine s94_47 ?_
            first | exact pB _ (by unfold yv; rw [if_pos (by omega)]) | exact pB _ (by unfold yv; rw [if_neg (by omega), if_pos (by omega)]) | exact pB _ (by unfold yv; rw [if_neg (by omega), if_neg (by omega), if_pos (by omega)]) | exact pB _ (by unfold yv; rw [if_neg (by omega), if_neg (by omega), if_neg (by omega)])
        · refine s94_35 rfl ?_
          refine s94_36 ?_
          first | exact pB _ (by unfold yv; rw [if_pos (by omega)]) | exact pB _ (by unfold yv; rw [if_neg (by omega), if_pos (by omega)]) | exact pB _ (by unfold yv; rw [if_neg (by omega), if_neg (by omega), if_pos (by omega)]) | exact pB _ (by unfold yv; rw [if_neg (by omega), if_neg (by omega), if_neg (by omega)])
      · refine s94_25 rfl ?_
        refine s94_26 ?_
        first | exact pB _ (by unfold yv; rw [if_pos (by omega)]) | exact pB _ (by unfold yv; rw [if_neg (by omega), if_pos (by omega)]) | exact pB _ (by unfold yv; rw [if_neg (by omega), if_neg (by omega), if_pos (by omega)]) | exact pB _ (by unfold yv; rw [if_neg (by omega), if_neg (by omega), if_neg (by omega)])
end MX
