/-! 41.fields: the reference's fields, places, names. -/
section MX
variable {S : Nat × (Nat → Int32)} {μ : xM} {g : Nat → Nat → Int} {n : Nat} {Q : xQ} {m : Bool} {k : Nat} {l : List Int}
theorem c89 {t v : Int} (hm : mM g m k) (ht : 0 ≤ t ∧ t ≤ 999999) (hv : 0 ≤ v ∧ v ≤ 999999) (hl : l.length + 14 ≤ 120) (h : Q (.inl none) (x_vm (mw m k (l ++ x_nf t v) g)) n) : x_V S 89 0 [some (.ref 100), some (.int (I t)), some (.int (I v))] [] (x_vm (mw m k l g)) n Q := by
  have d1 := x_dk_len 6 0 t
  have d2 := x_dk_len 6 0 v
  rw [show l ++ x_nf t v = (((l ++ x_dk 6 0 t) ++ [61]) ++ x_dk 6 0 v) ++ [1] by unfold x_nf; simp only [List.append_assoc]] at h
  refine s89_0 rfl ?_
  refine s89_1 rfl ?_
  refine s89_2 (by first | assumption | rfl) (by simp) ?_
  refine c88 hm ht (by omega) ?_
  refine ⟨_, rfl, ?_⟩
  refine s89_5 rfl ?_
  refine s89_6 ?_
  refine s89_8 (by first | assumption | rfl) (by simp) ?_
  refine c87 hm (by simp only [List.length_append, List.length_cons, List.length_nil]; omega) ?_
  refine ⟨_, rfl, ?_⟩
  refine s89_11 rfl ?_
  refine s89_12 rfl ?_
  refine s89_13 (by first | assumption | rfl) (by simp) ?_
  refine c88 hm hv (by simp only [List.length_append, List.length_cons, List.length_nil]; omega) ?_
  refine ⟨_, rfl, ?_⟩
  refine s89_16 rfl ?_
  refine s89_17 ?_
  refine s89_18 (by first | assumption | rfl) (by simp) ?_
  refine c87 hm (by simp only [List.length_append, List.length_cons, List.length_nil]; omega) ?_
  refine ⟨_, rfl, ?_⟩
  refine s89_21 (st := []) ?_
  exact h
theorem c90 {t v : Int} (hm : mM g m k) (ht : 0 ≤ t ∧ t ≤ 999999) (hl : l.length + 9 ≤ 120) (h : Q (.inl none) (x_vm (mw m k (l ++ x_chf t v) g)) n) : x_V S 90 0 [some (.ref 100), some (.int (I t)), some (.int (I v))] [] (x_vm (mw m k l g)) n Q := by
  have d1 := x_dk_len 6 0 t
  rw [show l ++ x_chf t v = (((l ++ x_dk 6 0 t) ++ [61]) ++ [v]) ++ [1] by unfold x_chf; simp only [List.append_assoc]] at h
  refine s90_0 rfl ?_
  refine s90_1 rfl ?_
  refine s90_2 (by first | assumption | rfl) (by simp) ?_
  refine c88 hm ht (by omega) ?_
  refine ⟨_, rfl, ?_⟩
  refine s90_5 rfl ?_
  refine s90_6 ?_
  refine s90_8 (by first | assumption | rfl) (by simp) ?_
  refine c87 hm (by simp only [List.length_append, List.length_cons, List.length_nil]; omega) ?_
  refine ⟨_, rfl, ?_⟩
  refine s90_11 rfl ?_
  refine s90_12 rfl ?_
  refine s90_13 (by first | assumption | rfl) (by simp) ?_
  refine c87 hm (by simp only [List.length_append, List.length_cons, List.length_nil]; omega) ?_
  refine ⟨_, rfl, ?_⟩
  refine s90_16 rfl ?_
  refine s90_17 ?_
  refine s90_18 (by first | assumption | rfl) (by simp) ?_
  refine c87 hm (by simp only [List.length_append, List.length_cons, List.length_nil]; omega) ?_
  refine ⟨_, rfl, ?_⟩
  refine s90_21 (st := []) ?_
  exact h
theorem dk_len1 (v : Int) : ∀ j : Nat, (x_dk j 1 v).length = j
  | 0 => rfl
  | j + 1 => by
    rw [x_dk, if_pos (Or.inl (by decide)), List.length_cons, dk_len1 v j]
/-- how many digits -/
def xpl (v : Int) : Int := (x_dk 6 0 v).length
theorem xpl_b {v : Int} : 0 ≤ xpl v ∧ xpl v ≤ 6 := by
  have := x_dk_len 6 0 v
  unfold xpl
  omega
theorem l91 {v : Int} (hv : 0 ≤ v ∧ v ≤ 999999) (h : Q (.inl (some (.int (I (xpl v))))) μ n) : ∀ (d j : Nat), j + d = 5 → (j = 0 ∨ 10 ^ j ≤ v) → x_V S 91 4 [some (.int (I v)), some (.int (I (j + 1))), some (.int (I (v / 10 ^ j)))] [] μ n Q := by
  intro d
  have fin : ∀ j : Nat, j ≤ 5 → (j = 0 ∨ 10 ^ j ≤ v) → v / 10 ^ j ≤ 9 → xpl v = j + 1 := by
    intro j h5 hp hq
    have := dk_skip hv.1 hq hp h5 (5 - j) (by omega)
    rw [show j + 1 + (5 - j) = 6 by omega] at this
    unfold xpl
    rw [this, dk_len1]
    rfl
  induction d with
  | zero =>
    intro j hj hp
    have e : j = 5 := by omega
    subst e
    have p : (10 : Int) ^ 5 = 100000 := by decide
    have hf := fin 5 (by omega) hp
    rw [p] at hp hf ⊢
    refine s91_4 rfl ?_
    refine s91_5 ?_
    refine s91_7 ⟨by omega, by omega⟩ ⟨by omega, by omega⟩ (fun h7 => ?_) (fun h7 => ?_)
    · refine s91_21 rfl ?_
      refine s91_22 (st := []) ?_
      rw [hf (by omega)] at h
      exact h
    · exfalso; omega
  | succ d ih =>
    intro j hj hp
    have p := pw10 j (by omega)
    have p2 := pw10 (j + 1) (by omega)
    have ps : (10 : Int) ^ j * 10 = 10 ^ (j + 1) := (Int.pow_succ _ _).symm
    have dv : 0 ≤ v / 10 ^ j ∧ v / 10 ^ j ≤ v := ⟨Int.ediv_nonneg hv.1 (by omega), Int.ediv_le_self _ hv.1⟩
    have hle : v / 10 ^ j ≤ 9 ∨ 10 ^ (j + 1) ≤ v := by
      by_cases c : v / 10 ^ j ≤ 9
      · exact Or.inl c
      · right
        have := (Int.le_ediv_iff_mul_le (a := 10) (b := v) (c := 10 ^ j) (by omega)).1 (by omega)
        omega
    have hf := fin j (by omega) hp
    have hd : v / 10 ^ j / 10 = v / 10 ^ (j + 1) := by
      rw [← ps]
      exact Int.ediv_ediv_of_nonneg (by omega)
    generalize v / 10 ^ j = r at dv hle hf hd
    refine s91_4 rfl ?_
    refine s91_5 ?_
    refine s91_7 ⟨by omega, by omega⟩ ⟨by omega, by omega⟩ (fun h7 => ?_) (fun h7 => ?_)
    · refine s91_21 rfl ?_
      refine s91_22 (st := []) ?_
      rw [hf (by omega)] at h
      exact h
    · refine s91_10 rfl ?_
      refine s91_13 rfl ?_
      refine s91_14 ?_
      refine s91_16 ⟨by omega, by omega⟩ ⟨by omega, by omega⟩ (by omega) (by omega) ?_
      refine s91_17 ?_
      refine s91_18 ?_
      rw [hd]
      exact ih (j + 1) (by omega) (Or.inr (by omega))
theorem c91 {v : Int} (hv : 0 ≤ v ∧ v ≤ 999999) (h : Q (.inl (some (.int (I (xpl v))))) μ n) : x_V S 91 0 [some (.int (I v)), none, none] [] μ n Q := by
  refine s91_0 ?_
  refine s91_1 ?_
  refine s91_2 rfl ?_
  refine s91_3 ?_
  have := l91 (S := S) hv h 5 0 rfl (Or.inl rfl)
  rw [show v / 10 ^ 0 = v by rw [show (10 : Int) ^ 0 = 1 from rfl, Int.ediv_one]] at this
  exact this
theorem c93 {t v : Int} (ht : 0 ≤ t ∧ t ≤ 999999) (hv : 0 ≤ v ∧ v ≤ 999999) (h : Q (.inl (some (.int (I (xpl t + xpl v + 2))))) μ n) : x_V S 93 0 [some (.int (I t)), some (.int (I v))] [] μ n Q := by
  refine s93_0 rfl ?_
  refine s93_1 (by simp) ?_
  refine c91 ht ?_
  refine ⟨_, rfl, ?_⟩
  refine s93_4 rfl ?_
  refine s93_5 (by simp) ?_
  refine c91 hv ?_
  refine ⟨_, rfl, ?_⟩
  refine s93_8 ?_
  refine s93_9 ?_
  refine s93_10 ?_
  refine s93_11 (st := []) ?_
  exact h
abbrev xty (t : Int) : Prop := t = 48 ∨ t = 49 ∨ t = 50 ∨ t = 52 ∨ t = 53 ∨ t = 65 ∨ t = 68 ∨ t = 70 ∨ t = 71 ∨ t = 56
theorem x_tg_v : x_tg 48 0 = 112 ∧ x_tg 48 1 = 0 ∧ x_tg 48 2 = 0 ∧ x_tg 48 3 = 0 ∧ x_tg 49 0 = 112 ∧ x_tg 49 1 = 0 ∧ x_tg 49 2 = 0 ∧ x_tg 49 3 = 0 ∧ x_tg 50 0 = 7 ∧ x_tg 50 1 = 16 ∧ x_tg 50 2 = 0 ∧ x_tg 50 3 = 0 ∧ x_tg 52 0 = 36 ∧ x_tg 52 1 = 123 ∧ x_tg 52 2 = 0 ∧ x_tg 52 3 = 0 ∧ x_tg 53 0 = 0 ∧ x_tg 53 1 = 0 ∧ x_tg 53 2 = 0 ∧ x_tg 53 3 = 0 ∧ x_tg 65 0 = 108 ∧ x_tg 65 1 = 0 ∧ x_tg 65 2 = 0 ∧ x_tg 65 3 = 0 ∧ x_tg 68 0 = 11 ∧ x_tg 68 1 = 54 ∧ x_tg 68 2 = 38 ∧ x_tg 68 3 = 0 ∧ x_tg 70 0 = 11 ∧ x_tg 70 1 = 41 ∧ x_tg 70 2 = 0 ∧ x_tg 70 3 = 0 ∧ x_tg 71 0 = 11 ∧ x_tg 71 1 = 41 ∧ x_tg 71 2 = 38 ∧ x_tg 71 3 = 0 ∧ x_tg 56 0 = 11 ∧ x_tg 56 1 = 39 ∧ x_tg 56 2 = 14 ∧ x_tg 56 3 = 151 := by decide
theorem c95 {t i : Int} (ht : xty t) (hi : i = 0 ∨ i = 1 ∨ i = 2 ∨ i = 3) (h : Q (.inl (some (.int (I (x_tg t i))))) μ n) : x_V S 95 0 [some (.int (I t)), some (.int (I i))] [] μ n Q := by
  have htb : 48 ≤ t ∧ t ≤ 71 := by omega
  refine s95_0 rfl ?_
  refine s95_1 ?_
  refine s95_3 ⟨by omega, by omega⟩ ⟨by omega, by omega⟩ (fun h3 => ?_) (fun h3 => ?_)
  · refine s95_12 rfl ?_
    refine s95_13 ⟨by omega, by omega⟩ (fun h13 => ?_) (fun h13 => ?_)
    · refine s95_21 ?_
      refine s95_22 (st := []) ?_
      rcases ht with e | e | e | e | e | e | e | e | e | e <;> rcases hi with q | q | q | q <;> first | (exfalso; omega) | (rw [e, q] at h; exact h)
    · refine s95_16 ?_
      refine s95_18 ?_
      refine s95_22 (st := []) ?_
      rcases ht with e | e | e | e | e | e | e | e | e | e <;> rcases hi with q | q | q | q <;> first | (exfalso; omega) | (rw [e, q] at h; exact h)
  · refine s95_6 rfl ?_
    refine s95_7 ?_
    refine s95_9 ⟨by omega, by omega⟩ ⟨by omega, by omega⟩ (fun h9 => ?_) (fun h9 => ?_)
    · refine s95_23 rfl ?_
      refine s95_24 ?_
      refine s95_26 ⟨by omega, by omega⟩ ⟨by omega, by omega⟩ (fun h26 => ?_) (fun h26 => ?_)
      · refine s95_50 rfl ?_
        refine s95_51 ?_
        refine s95_53 ⟨by omega, by omega⟩ ⟨by omega, by omega⟩ (fun h53 => ?_) (fun h53 => ?_)
        · refine s95_77 rfl ?_
          refine s95_78 ?_
          refine s95_80 ⟨by omega, by omega⟩ ⟨by omega, by omega⟩ (fun h80 => ?_) (fun h80 => ?_)
          · refine s95_94 rfl ?_
            refine s95_95 ?_
            refine s95_97 ⟨by omega, by omega⟩ ⟨by omega, by omega⟩ (fun h97 => ?_) (fun h97 => ?_)
            · refine s95_131 rfl ?_
              refine s95_132 ?_
              refine s95_134 ⟨by omega, by omega⟩ ⟨by omega, by omega⟩ (fun h134 => ?_) (fun h134 => ?_)
              · refine s95_143 rfl ?_
                refine s95_144 ⟨by omega, by omega⟩ (fun h144 => ?_) (fun h144 => ?_)
                · refine s95_152 rfl ?_
                  refine s95_153 ?_
                  refine s95_154 ⟨by omega, by omega⟩ ⟨by omega, by omega⟩ (fun h154 => ?_) (fun h154 => ?_)
                  · refine s95_162 rfl ?_
                    refine s95_163 ?_
                    refine s95_164 ⟨by omega, by omega⟩ ⟨by omega, by omega⟩ (fun h164 => ?_) (fun h164 => ?_)
                    · refine s95_178 ?_
                      refine s95_179 (st := []) ?_
                      rcases ht with e | e | e | e | e | e | e | e | e | e <;> rcases hi with q | q | q | q <;> first | (exfalso; omega) | (rw [e, q] at h; exact h)
                    · refine s95_167 rfl ?_
                      refine s95_168 ?_
                      refine s95_170 ⟨by omega, by omega⟩ ⟨by omega, by omega⟩ (fun h170 => ?_) (fun h170 => ?_)
                      · refine s95_178 ?_
                        refine s95_179 (st := []) ?_
                        rcases ht with e | e | e | e | e | e | e | e | e | e <;> rcases hi with q | q | q | q <;> first | (exfalso; omega) | (rw [e, q] at h; exact h)
                      · refine s95_173 ?_
                        refine s95_175 ?_
                        refine s95_179 (st := []) ?_
                        rcases ht with e | e | e | e | e | e | e | e | e | e <;> rcases hi with q | q | q | q <;> first | (exfalso; omega) | (rw [e, q] at h; exact h)
                  · refine s95_157 ?_
                    refine s95_159 ?_
                    refine s95_179 (st := []) ?_
                    rcases ht with e | e | e | e | e | e | e | e | e | e <;> rcases hi with q | q | q | q <;> first | (exfalso; omega) | (rw [e, q] at h; exact h)
                · refine s95_147 ?_
                  refine s95_149 ?_
                  refine s95_179 (st := []) ?_
                  rcases ht with e | e | e | e | e | e | e | e | e | e <;> rcases hi with q | q | q | q <;> first | (exfalso; omega) | (rw [e, q] at h; exact h)
              · refine s95_137 rfl ?_
                refine s95_138 ?_
                refine s95_140 ⟨by omega, by omega⟩ ⟨by omega, by omega⟩ (fun h140 => ?_) (fun h140 => ?_)
                · refine s95_180 rfl ?_
                  refine s95_181 ?_
                  refine s95_183 ⟨by omega, by omega⟩ ⟨by omega, by omega⟩ (fun h183 => ?_) (fun h183 => ?_)
                  · refine s95_219 ?_
                    refine s95_220 (st := []) ?_
                    rcases ht with e | e | e | e | e | e | e | e | e | e <;> rcases hi with q | q | q | q <;> first | (exfalso; omega) | (rw [e, q] at h; exact h)
                  · refine s95_186 rfl ?_
                    refine s95_187 ⟨by omega, by omega⟩ (fun h187 => ?_) (fun h187 => ?_)
                    · refine s95_195 rfl ?_
                      refine s95_196 ?_
                      refine s95_197 ⟨by omega, by omega⟩ ⟨by omega, by omega⟩ (fun h197 => ?_) (fun h197 => ?_)
                      · refine s95_205 rfl ?_
                        refine s95_206 ?_
                        refine s95_207 ⟨by omega, by omega⟩ ⟨by omega, by omega⟩ (fun h207 => ?_) (fun h207 => ?_)
                        · refine s95_215 ?_
                          refine s95_218 (st := []) ?_
                          rcases ht with e | e | e | e | e | e | e | e | e | e <;> rcases hi with q | q | q | q <;> first | (exfalso; omega) | (rw [e, q] at h; exact h)
                        · refine s95_210 ?_
                          refine s95_212 ?_
                          refine s95_218 (st := []) ?_
                          rcases ht with e | e | e | e | e | e | e | e | e | e <;> rcases hi with q | q | q | q <;> first | (exfalso; omega) | (rw [e, q] at h; exact h)
                      · refine s95_200 ?_
                        refine s95_202 ?_
                        refine s95_218 (st := []) ?_
                        rcases ht with e | e | e | e | e | e | e | e | e | e <;> rcases hi with q | q | q | q <;> first | (exfalso; omega) | (rw [e, q] at h; exact h)
                    · refine s95_190 ?_
                      refine s95_192 ?_
                      refine s95_218 (st := []) ?_
                      rcases ht with e | e | e | e | e | e | e | e | e | e <;> rcases hi with q | q | q | q <;> first | (exfalso; omega) | (rw [e, q] at h; exact h)
                · refine s95_143 rfl ?_
                  refine s95_144 ⟨by omega, by omega⟩ (fun h144 => ?_) (fun h144 => ?_)
                  · refine s95_152 rfl ?_
                    refine s95_153 ?_
                    refine s95_154 ⟨by omega, by omega⟩ ⟨by omega, by omega⟩ (fun h154 => ?_) (fun h154 => ?_)
                    · refine s95_162 rfl ?_
                      refine s95_163 ?_
                      refine s95_164 ⟨by omega, by omega⟩ ⟨by omega, by omega⟩ (fun h164 => ?_) (fun h164 => ?_)
                      · refine s95_178 ?_
                        refine s95_179 (st := []) ?_
                        rcases ht with e | e | e | e | e | e | e | e | e | e <;> rcases hi with q | q | q | q <;> first | (exfalso; omega) | (rw [e, q] at h; exact h)
                      · refine s95_167 rfl ?_
                        refine s95_168 ?_
                        refine s95_170 ⟨by omega, by omega⟩ ⟨by omega, by omega⟩ (fun h170 => ?_) (fun h170 => ?_)
                        · refine s95_178 ?_
                          refine s95_179 (st := []) ?_
                          rcases ht with e | e | e | e | e | e | e | e | e | e <;> rcases hi with q | q | q | q <;> first | (exfalso; omega) | (rw [e, q] at h; exact h)
                        · refine s95_173 ?_
                          refine s95_175 ?_
                          refine s95_179 (st := []) ?_
                          rcases ht with e | e | e | e | e | e | e | e | e | e <;> rcases hi with q | q | q | q <;> first | (exfalso; omega) | (rw [e, q] at h; exact h)
                    · refine s95_157 ?_
                      refine s95_159 ?_
                      refine s95_179 (st := []) ?_
                      rcases ht with e | e | e | e | e | e | e | e | e | e <;> rcases hi with q | q | q | q <;> first | (exfalso; omega) | (rw [e, q] at h; exact h)
                  · refine s95_147 ?_
                    refine s95_149 ?_
                    refine s95_179 (st := []) ?_
                    rcases ht with e | e | e | e | e | e | e | e | e | e <;> rcases hi with q | q | q | q <;> first | (exfalso; omega) | (rw [e, q] at h; exact h)
            · refine s95_100 rfl ?_
              refine s95_101 ⟨by omega, by omega⟩ (fun h101 => ?_) (fun h101 => ?_)
              · refine s95_109 rfl ?_
                refine s95_110 ?_
                refine s95_111 ⟨by omega, by omega⟩ ⟨by omega, by omega⟩ (fun h111 => ?_) (fun h111 => ?_)
                · refine s95_119 rfl ?_
                  refine s95_120 ?_
                  refine s95_121 ⟨by omega, by omega⟩ ⟨by omega, by omega⟩ (fun h121 => ?_) (fun h121 => ?_)
                  · refine s95_129 ?_
                    refine s95_130 (st := []) ?_
                    rcases ht with e | e | e | e | e | e | e | e | e | e <;> rcases hi with q | q | q | q <;> first | (exfalso; omega) | (rw [e, q] at h; exact h)
                  · refine s95_124 ?_
                    refine s95_126 ?_
                    refine s95_130 (st := []) ?_
                    rcases ht with e | e | e | e | e | e | e | e | e | e <;> rcases hi with q | q | q | q <;> first | (exfalso; omega) | (rw [e, q] at h; exact h)
                · refine s95_114 ?_
                  refine s95_116 ?_
                  refine s95_130 (st := []) ?_
                  rcases ht with e | e | e | e | e | e | e | e | e | e <;> rcases hi with q | q | q | q <;> first | (exfalso; omega) | (rw [e, q] at h; exact h)
              · refine s95_104 ?_
                refine s95_106 ?_
                refine s95_130 (st := []) ?_
                rcases ht with e | e | e | e | e | e | e | e | e | e <;> rcases hi with q | q | q | q <;> first | (exfalso; omega) | (rw [e, q] at h; exact h)
          · refine s95_83 rfl ?_
            refine s95_84 ⟨by omega, by omega⟩ (fun h84 => ?_) (fun h84 => ?_)
            · refine s95_92 ?_
              refine s95_93 (st := []) ?_
              rcases ht with e | e | e | e | e | e | e | e | e | e <;> rcases hi with q | q | q | q <;> first | (exfalso; omega) | (rw [e, q] at h; exact h)
            · refine s95_87 ?_
              refine s95_89 ?_
              refine s95_93 (st := []) ?_
              rcases ht with e | e | e | e | e | e | e | e | e | e <;> rcases hi with q | q | q | q <;> first | (exfalso; omega) | (rw [e, q] at h; exact h)
        · refine s95_56 rfl ?_
          refine s95_57 ⟨by omega, by omega⟩ (fun h57 => ?_) (fun h57 => ?_)
          · refine s95_65 rfl ?_
            refine s95_66 ?_
            refine s95_67 ⟨by omega, by omega⟩ ⟨by omega, by omega⟩ (fun h67 => ?_) (fun h67 => ?_)
            · refine s95_75 ?_
              refine s95_76 (st := []) ?_
              rcases ht with e | e | e | e | e | e | e | e | e | e <;> rcases hi with q | q | q | q <;> first | (exfalso; omega) | (rw [e, q] at h; exact h)
            · refine s95_70 ?_
              refine s95_72 ?_
              refine s95_76 (st := []) ?_
              rcases ht with e | e | e | e | e | e | e | e | e | e <;> rcases hi with q | q | q | q <;> first | (exfalso; omega) | (rw [e, q] at h; exact h)
          · refine s95_60 ?_
            refine s95_62 ?_
            refine s95_76 (st := []) ?_
            rcases ht with e | e | e | e | e | e | e | e | e | e <;> rcases hi with q | q | q | q <;> first | (exfalso; omega) | (rw [e, q] at h; exact h)
      · refine s95_29 rfl ?_
        refine s95_30 ⟨by omega, by omega⟩ (fun h30 => ?_) (fun h30 => ?_)
        · refine s95_38 rfl ?_
          refine s95_39 ?_
          refine s95_40 ⟨by omega, by omega⟩ ⟨by omega, by omega⟩ (fun h40 => ?_) (fun h40 => ?_)
          · refine s95_48 ?_
            refine s95_49 (st := []) ?_
            rcases ht with e | e | e | e | e | e | e | e | e | e <;> rcases hi with q | q | q | q <;> first | (exfalso; omega) | (rw [e, q] at h; exact h)
          · refine s95_43 ?_
            refine s95_45 ?_
            refine s95_49 (st := []) ?_
            rcases ht with e | e | e | e | e | e | e | e | e | e <;> rcases hi with q | q | q | q <;> first | (exfalso; omega) | (rw [e, q] at h; exact h)
        · refine s95_33 ?_
          refine s95_35 ?_
          refine s95_49 (st := []) ?_
          rcases ht with e | e | e | e | e | e | e | e | e | e <;> rcases hi with q | q | q | q <;> first | (exfalso; omega) | (rw [e, q] at h; exact h)
    · refine s95_12 rfl ?_
      refine s95_13 ⟨by omega, by omega⟩ (fun h13 => ?_) (fun h13 => ?_)
      · refine s95_21 ?_
        refine s95_22 (st := []) ?_
        rcases ht with e | e | e | e | e | e | e | e | e | e <;> rcases hi with q | q | q | q <;> first | (exfalso; omega) | (rw [e, q] at h; exact h)
      · refine s95_16 ?_
        refine s95_18 ?_
        refine s95_22 (st := []) ?_
        rcases ht with e | e | e | e | e | e | e | e | e | e <;> rcases hi with q | q | q | q <;> first | (exfalso; omega) | (rw [e, q] at h; exact h)
end MX
