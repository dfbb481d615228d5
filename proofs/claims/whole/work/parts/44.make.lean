/-! 44.make: the reference writes a frame, whole. -/
section MX
variable {S : Nat × (Nat → Int32)} {μ : xM} {g : Nat → Nat → Int} {n : Nat} {Q : xQ} {m : Bool} {k : Nat} {l : List Int}
theorem dk_ne (v : Int) : x_dk 6 0 v ≠ [] := by
  have : ∀ j : Nat, ∀ b : Int, x_dk (j + 1) b v ≠ [] := by
    intro j
    induction j with
    | zero => intro b; rw [x_dk, if_pos (Or.inr (Or.inr rfl))]; exact List.cons_ne_nil _ _
    | succ j ih =>
      intro b
      rw [x_dk]
      split
      · exact List.cons_ne_nil _ _
      · exact ih 0
  exact this 5 0
theorem dk2 {v : Int} (h0 : 10 ≤ v) (h1 : v ≤ 99) : x_dk 6 0 v = [48 + v / 10 % 10, 48 + v % 10] := by
  have := dk_skip (v := v) (j := 1) (by omega) (by rw [show (10 : Int) ^ 1 = 10 from rfl]; omega) (Or.inr (by rw [show (10 : Int) ^ 1 = 10 from rfl]; omega)) (by omega) 4 (by omega)
  rw [show (6 : Nat) = 1 + 1 + 4 from rfl, this, x_dk, x_dk, x_dk, if_pos (Or.inl (by decide)), if_pos (Or.inl (by decide)), show (10 : Int) ^ 1 = 10 from rfl, show (10 : Int) ^ 0 = 1 from rfl, Int.ediv_one]
/-- the sum over what is written -/
def rs (m : Bool) (k : Nat) (l : List Int) (j : Nat) : Int := if m = true ∨ k < 20 then l.getD j 0 else 0
theorem rs_b (hb : x_by l) : ∀ j, j < l.length → 0 ≤ rs m k l j ∧ rs m k l j ≤ 127 := fun j hj => by
  unfold rs
  split
  · exact x_by_get hb hj
  · omega
theorem x_sf_l (s s' : Int) : (x_sf s).length = (x_sf s').length := by
  unfold x_sf
  simp only [List.length_append, List.length_cons, List.length_nil]
theorem k96 {t nn d p q r s : Int} (hm : mM g m k) (hb : x_by l) (hl : l.length + 11 ≤ 120) (h : Q (.inl none) (x_vm (mw m k (l ++ x_sf (x_sm (fun j => l.getD j 0) l.length % 256)) g)) n) : ∀ (dd j : Nat), j + dd = l.length → x_V S 96 138 [some (.ref 100), some (.int (I t)), some (.int (I nn)), some (.int (I d)), some (.int (I p)), some (.int (I q)), some (.int (I r)), some (.int (I s)), some (.int (I l.length)), some (.int (I (x_sm (rs m k l) j))), some (.int (I j))] [] (x_vm (mw m k l g)) n Q := by
  have hsb := x_sm_b (rs_b (m := m) (k := k) hb)
  intro dd
  induction dd with
  | zero =>
    intro j hj
    have e : j = l.length := by omega
    subst e
    have b := hsb l.length (Nat.le_refl _)
    have fin : mw m k (l ++ x_sf (x_sm (fun j => l.getD j 0) l.length % 256)) g = mw m k (l ++ x_sf (x_sm (rs m k l) l.length % 256)) g := by
      by_cases c : m = true ∨ k < 20
      · have e : rs m k l = fun j => l.getD j 0 := by
          funext j
          unfold rs
          rw [if_pos c]
        rw [e]
      · have cm : m = false := by
          cases m with
          | true => exact absurd (Or.inl rfl) c
          | false => rfl
        subst cm
        exact mw_far (fun z => c (Or.inr z)) (by rw [List.length_append, List.length_append, x_sf_l])
    rw [fin] at h
    generalize x_sm (rs m k l) l.length = z at b h
    have d1 : (x_dk 6 0 10).length = 2 := by decide
    rw [show l ++ x_sf (z % 256) = (((((l ++ x_dk 6 0 10) ++ [61]) ++ [48 + z % 256 / 100]) ++ [48 + z % 256 / 10 % 10]) ++ [48 + z % 256 % 10]) ++ [1] by unfold x_sf; simp only [List.append_assoc]] at h
    refine s96_138 rfl ?_
    refine s96_140 rfl ?_
    refine s96_142 ⟨by omega, by omega⟩ ⟨by omega, by omega⟩ (fun h142 => ?_) (fun h142 => ?_)
    · refine s96_162 rfl ?_
      refine s96_163 ?_
      refine s96_165 (by first | assumption | rfl) (by simp) ?_
      refine c88 hm ⟨by omega, by omega⟩ (by omega) ?_
      refine ⟨_, rfl, ?_⟩
      refine s96_168 rfl ?_
      refine s96_169 ?_
      refine s96_171 (by first | assumption | rfl) (by simp) ?_
      refine c87 hm (by simp only [List.length_append, List.length_cons, List.length_nil]; omega) ?_
      refine ⟨_, rfl, ?_⟩
      refine s96_174 rfl ?_
      refine s96_175 ?_
      refine s96_177 rfl ?_
      refine s96_179 ?_
      refine s96_182 ⟨by omega, by omega⟩ ⟨by omega, by omega⟩ (by omega) (by omega) ?_
      refine s96_183 ?_
      refine s96_185 ⟨by omega, by omega⟩ ⟨by omega, by omega⟩ (by omega) (by omega) ?_
      refine s96_186 ?_
      refine s96_187 (by first | assumption | rfl) (by simp) ?_
      refine c87 hm (by simp only [List.length_append, List.length_cons, List.length_nil]; omega) ?_
      refine ⟨_, rfl, ?_⟩
      refine s96_190 rfl ?_
      refine s96_191 ?_
      refine s96_193 rfl ?_
      refine s96_195 ?_
      refine s96_198 ⟨by omega, by omega⟩ ⟨by omega, by omega⟩ (by omega) (by omega) ?_
      refine s96_199 ?_
      refine s96_201 ⟨by omega, by omega⟩ ⟨by omega, by omega⟩ (by omega) (by omega) ?_
      refine s96_202 ?_
      refine s96_204 ⟨by omega, by omega⟩ ⟨by omega, by omega⟩ (by omega) (by omega) ?_
      refine s96_205 ?_
      refine s96_206 (by first | assumption | rfl) (by simp) ?_
      refine c87 hm (by simp only [List.length_append, List.length_cons, List.length_nil]; omega) ?_
      refine ⟨_, rfl, ?_⟩
      refine s96_209 rfl ?_
      refine s96_210 ?_
      refine s96_212 rfl ?_
      refine s96_214 ?_
      refine s96_217 ⟨by omega, by omega⟩ ⟨by omega, by omega⟩ (by omega) (by omega) ?_
      refine s96_218 ?_
      refine s96_220 ⟨by omega, by omega⟩ ⟨by omega, by omega⟩ (by omega) (by omega) ?_
      refine s96_221 ?_
      refine s96_222 (by first | assumption | rfl) (by simp) ?_
      refine c87 hm (by simp only [List.length_append, List.length_cons, List.length_nil]; omega) ?_
      refine ⟨_, rfl, ?_⟩
      refine s96_225 rfl ?_
      refine s96_226 ?_
      refine s96_227 (by first | assumption | rfl) (by simp) ?_
      refine c87 hm (by simp only [List.length_append, List.length_cons, List.length_nil]; omega) ?_
      refine ⟨_, rfl, ?_⟩
      refine s96_230 (st := []) ?_
      exact h
    · exfalso; omega
  | succ dd ih =>
    intro j hj
    have b := hsb j (by omega)
    have b2 := rs_b (m := m) (k := k) hb j (by omega)
    have e : x_sm (rs m k l) (j + 1) = x_sm (rs m k l) j + rs m k l j := rfl
    refine s96_138 rfl ?_
    refine s96_140 rfl ?_
    refine s96_142 ⟨by omega, by omega⟩ ⟨by omega, by omega⟩ (fun h142 => ?_) (fun h142 => ?_)
    · exfalso; omega
    · refine s96_145 rfl ?_
      refine s96_147 rfl ?_
      refine s96_148 rfl ?_
      refine s96_150 (by first | assumption | rfl) (by simp) ?_
      refine c92 hm (by omega) (by omega) ?_
      refine ⟨_, rfl, ?_⟩
      refine s96_153 ?_
      refine s96_154 ?_
      refine s96_156 rfl ?_
      refine s96_159 ?_
      have := ih (j + 1) (by omega)
      rw [e] at this
      exact this
theorem c96 {t nn d p q r s : Int} (hm : mM g m k) (ho : rok (t, nn, d, p, q, r, s)) (h : Q (.inl none) (x_vm (mw m k (yfr (t, nn, d, p, q, r, s)) (rg m g))) n) : x_V S 96 0 [some (.ref 100), some (.int (I t)), some (.int (I nn)), some (.int (I d)), some (.int (I p)), some (.int (I (mq t q))), some (.int (I r)), some (.int (I s)), none, none, none] [] (x_vm g) n Q := by
  have hbo := bw_owl ho
  have hby := x_by_hb (m := nn) (d := d) ho.1.1 (yv_s ho.1)
  have hbl := x_bd_len t nn d (yv p q r s)
  obtain ⟨⟨o1, o2, o3, o4, o5, o6, o7, o8⟩, ht, hp, hq, hr, hs⟩ := ho
  simp only at o1 o2 o3 o4 o5 o6 o7 hq hr hs
  have hmq : -1 ≤ mq t q ∧ mq t q ≤ 999999 := by
    unfold mq
    split
    · split <;> omega
    · exact o5
  have htb : 48 ≤ t ∧ t ≤ 71 := by have : xty t := ht; omega
  have tail : ∀ l : List Int, l = x_hb t nn d (yv p q r s) → x_V S 96 112 [some (.ref 100), some (.int (I t)), some (.int (I nn)), some (.int (I d)), some (.int (I p)), some (.int (I (mq t q))), some (.int (I r)), some (.int (I s)), none, none, none] [] (x_vm (mw m k l (rg m g))) n Q := by
    intro l el
    have hl : l.length = 9 + (x_bd t nn d (yv p q r s)).length := by
      rw [el]
      unfold x_hb
      simp only [List.length_append, List.length_cons, List.length_nil]
    have h' : Q (.inl none) (x_vm (mw m k (l ++ x_sf (x_sm (fun j => l.getD j 0) l.length % 256)) (rg m g))) n := by
      rw [el]
      exact h
    have hm' := mM_rg hm
    have e38 : mw m k l (rg m g) 100 38 = if m = true then 1 else 0 := (mw_ot (by omega) (by omega) (by omega)).trans hm'.1
    have es := mw_sz (m := m) (k := k) (l := l) (g := rg m g)
    have hk := k96 (S := S) (t := t) (nn := nn) (d := d) (p := p) (q := mq t q) (r := r) (s := s) hm' (by rw [el]; exact hby) (by omega) h' l.length 0 (Nat.zero_add _)
    cases m with
    | true =>
      rw [if_pos rfl] at e38 es
      refine s96_112 rfl ?_
      refine s96_113 (by first | assumption | rfl) (by first | assumption | (exact hpo _) | rfl | decide) (by first | assumption | decide | omega) ?_
      rw [e38]
      refine s96_116 ⟨by omega, by omega⟩ (fun h116 => ?_) (fun h116 => ?_)
      · exfalso; omega
      · refine s96_119 rfl ?_
        refine s96_120 (by first | assumption | rfl) (by first | assumption | (exact hpo _) | rfl | decide) (by first | assumption | decide | omega) ?_
        rw [es]
        refine s96_123 ?_
        refine s96_130 ?_
        refine s96_132 ?_
        refine s96_133 ?_
        refine s96_135 ?_
        refine s96_136 ?_
        exact hk
    | false =>
      rw [if_neg (by decide)] at e38 es
      refine s96_112 rfl ?_
      refine s96_113 (by first | assumption | rfl) (by first | assumption | (exact hpo _) | rfl | decide) (by first | assumption | decide | omega) ?_
      rw [e38]
      refine s96_116 ⟨by omega, by omega⟩ (fun h116 => ?_) (fun h116 => ?_)
      · refine s96_126 rfl ?_
        refine s96_127 (by first | assumption | rfl) (by first | assumption | (exact hpo _) | rfl | decide) (by first | assumption | decide | omega) ?_
        rw [es]
        refine s96_130 ?_
        refine s96_132 ?_
        refine s96_133 ?_
        refine s96_135 ?_
        refine s96_136 ?_
        exact hk
      · exfalso; omega
  have start : x_V S 96 24 [some (.ref 100), some (.int (I t)), some (.int (I nn)), some (.int (I d)), some (.int (I p)), some (.int (I (mq t q))), some (.int (I r)), some (.int (I s)), none, none, none] [] (x_vm (mw m k [] (rg m g))) n Q := by
    have hm' := mM_rg hm
    have L1 := x_nf_len 34 nn
    have L2 := x_chf_len 35 t
    have L3 := x_chf_len 43 89
    have x34 : xpl 34 = 2 := by decide
    have x35 : xpl 35 = 2 := by decide
    have x43 : xpl 43 = 2 := by decide
    have x8 : x_chf 8 70 = [56, 61, 70, 1] := by decide
    have x9 : x_dk 6 0 9 = [57] := by decide
    have pn := xpl_b (v := nn)
    have pn1 : 1 ≤ xpl nn := by
      have : xpl nn = 0 ∨ 1 ≤ xpl nn := by omega
      rcases this with z | z
      · exfalso
        unfold xpl at z
        have z2 : x_dk 6 0 nn = [] := List.eq_nil_of_length_eq_zero (by omega)
        have dl := dk_ne nn
        exact dl z2
      · exact z
    have lb : ((x_bd t nn d (yv p q r s)).length : Int) = 5 + (2 + xpl nn + 2) + (if d = 0 then 0 else 5) + (bw t (yv p (mq t q) r s) 4 0).length := by
      rw [hbo]
      unfold x_bd
      simp only [List.length_append, Int.natCast_add]
      rw [L1, L2, x34, x35]
      split
      · simp only [List.length_nil]; omega
      · rw [L3, x43]; omega
    have lbw : 0 ≤ ((bw t (yv p (mq t q) r s) 4 0).length : Int) := by omega
    have hh : ∀ L : Int, L = ((x_bd t nn d (yv p q r s)).length : Int) → x_hb t nn d (yv p q r s) = ((((x_chf 8 70 ++ x_nf 9 L) ++ x_chf 35 t) ++ x_nf 34 nn) ++ (if d = 0 then [] else x_chf 43 89)) ++ bw t (yv p (mq t q) r s) 4 0 := by
      intro L eL
      have c1 : 10 ≤ L := by rw [eL, lb]; split <;> omega
      have c2 : L ≤ 99 := by rw [eL]; omega
      unfold x_hb
      have e9 : x_nf 9 L = [57, 61, 48 + L / 10 % 10, 48 + L % 10, 1] := by
        unfold x_nf
        rw [dk2 c1 c2, x9]
        rfl
      rw [← eL, hbo, x8, e9]
      unfold x_bd
      simp only [List.append_assoc, List.cons_append, List.nil_append]
    have n9 := x_dk_len 6 0 9
    have q9 : ∀ L : Int, (x_nf 9 L).length ≤ 9 := fun L => by
      have := x_dk_len 6 0 L
      unfold x_nf
      rw [x9]
      simp only [List.length_append, List.length_cons, List.length_nil]
      omega
    have l8 : (x_chf 8 70).length = 4 := by rw [x8]; rfl
    have q9' := q9 ((x_bd t nn d (yv p q r s)).length : Int)
    refine s96_24 rfl ?_
    refine s96_25 ?_
    refine s96_27 ?_
    refine s96_29 (by first | assumption | rfl) (by simp) ?_
    refine c90 hm' ⟨by omega, by omega⟩ (by simp) ?_
    refine ⟨_, rfl, ?_⟩
    rw [List.nil_append]
    refine s96_32 rfl ?_
    refine s96_33 ?_
    refine s96_35 ?_
    refine s96_36 ?_
    refine s96_38 rfl ?_
    refine s96_39 (by simp) ?_
    refine c93 ⟨by omega, by omega⟩ o2 ?_
    refine ⟨_, rfl, ?_⟩
    rw [x34]
    refine s96_42 ?_
    refine s96_43 rfl ?_
    refine s96_44 ⟨by omega, by omega⟩ (fun h44 => ?_) (fun h44 => ?_)
    · refine s96_51 ?_
      refine s96_52 ?_
      refine s96_53 rfl ?_
      refine s96_54 rfl ?_
      refine s96_55 rfl ?_
      refine s96_57 rfl ?_
      refine s96_59 rfl ?_
      refine s96_61 rfl ?_
      refine s96_63 ?_
      refine s96_64 (by first | assumption | rfl) (by simp) ?_
      refine c94 hm' ht o4 hmq o6 o7 (Or.inl rfl) (by omega) ?_
      refine ⟨_, rfl, ?_⟩
      rw [if_neg (show ¬ (0 : Int) = 1 by decide)]
      refine s96_67 ?_
      refine s96_68 (by first | assumption | rfl) (by simp) ?_
      first | rw [show (5 + (2 + xpl nn + 2) + 0 + ((bw t (yv p (mq t q) r s) 4 0).length : Int)) = ((x_bd t nn d (yv p q r s)).length : Int) from by rw [lb, if_pos (show d = 0 by omega)]] | rw [show (5 + (2 + xpl nn + 2) + 5 + ((bw t (yv p (mq t q) r s) 4 0).length : Int)) = ((x_bd t nn d (yv p q r s)).length : Int) from by rw [lb, if_neg (show ¬ d = 0 by omega)]]
      refine c89 hm' ⟨by omega, by omega⟩ ⟨by omega, by omega⟩ (by omega) ?_
      refine ⟨_, rfl, ?_⟩
      refine s96_71 rfl ?_
      refine s96_72 ?_
      refine s96_74 rfl ?_
      refine s96_75 (by first | assumption | rfl) (by simp) ?_
      refine c90 hm' ⟨by omega, by omega⟩ (by rw [List.length_append]; omega) ?_
      refine ⟨_, rfl, ?_⟩
      refine s96_78 rfl ?_
      refine s96_79 ?_
      refine s96_81 rfl ?_
      refine s96_82 (by first | assumption | rfl) (by simp) ?_
      refine c89 hm' ⟨by omega, by omega⟩ o2 (by rw [List.length_append, List.length_append]; omega) ?_
      refine ⟨_, rfl, ?_⟩
      refine s96_85 rfl ?_
      refine s96_86 ⟨by omega, by omega⟩ (fun h86 => ?_) (fun h86 => ?_)
      · refine s96_97 rfl ?_
        refine s96_98 rfl ?_
        refine s96_99 rfl ?_
        refine s96_101 rfl ?_
        refine s96_103 rfl ?_
        refine s96_105 rfl ?_
        refine s96_107 ?_
        refine s96_108 rfl (by simp) ?_
        refine c94 hm' ht o4 hmq o6 o7 (Or.inr rfl) (by simp only [List.length_append]; omega) ?_
        refine ⟨_, rfl, ?_⟩
        rw [if_pos (show (1 : Int) = 1 from rfl)]
        refine s96_111 rfl ?_
        refine tail _ ?_
        rw [hh _ rfl]
        first
          | (exfalso; omega)
          | rw [if_pos (show d = 0 by omega), List.append_nil]
          | rw [if_neg (show ¬ d = 0 by omega)]
      · refine s96_89 rfl ?_
        refine s96_90 ?_
        refine s96_92 ?_
        refine s96_94 (by first | assumption | rfl) (by simp) ?_
        refine c90 hm' ⟨by omega, by omega⟩ (by rw [List.length_append, List.length_append, List.length_append]; omega) ?_
        refine ⟨_, rfl, ?_⟩
        refine s96_97 rfl ?_
        refine s96_98 rfl ?_
        refine s96_99 rfl ?_
        refine s96_101 rfl ?_
        refine s96_103 rfl ?_
        refine s96_105 rfl ?_
        refine s96_107 ?_
        refine s96_108 rfl (by simp) ?_
        refine c94 hm' ht o4 hmq o6 o7 (Or.inr rfl) (by simp only [List.length_append]; omega) ?_
        refine ⟨_, rfl, ?_⟩
        rw [if_pos (show (1 : Int) = 1 from rfl)]
        refine s96_111 rfl ?_
        refine tail _ ?_
        rw [hh _ rfl]
        first
          | (exfalso; omega)
          | rw [if_pos (show d = 0 by omega), List.append_nil]
          | rw [if_neg (show ¬ d = 0 by omega)]
    · refine s96_47 ?_
      refine s96_48 ?_
      refine s96_52 ?_
      refine s96_53 rfl ?_
      refine s96_54 rfl ?_
      refine s96_55 rfl ?_
      refine s96_57 rfl ?_
      refine s96_59 rfl ?_
      refine s96_61 rfl ?_
      refine s96_63 ?_
      refine s96_64 (by first | assumption | rfl) (by simp) ?_
      refine c94 hm' ht o4 hmq o6 o7 (Or.inl rfl) (by omega) ?_
      refine ⟨_, rfl, ?_⟩
      rw [if_neg (show ¬ (0 : Int) = 1 by decide)]
      refine s96_67 ?_
      refine s96_68 (by first | assumption | rfl) (by simp) ?_
      first | rw [show (5 + (2 + xpl nn + 2) + 0 + ((bw t (yv p (mq t q) r s) 4 0).length : Int)) = ((x_bd t nn d (yv p q r s)).length : Int) from by rw [lb, if_pos (show d = 0 by omega)]] | rw [show (5 + (2 + xpl nn + 2) + 5 + ((bw t (yv p (mq t q) r s) 4 0).length : Int)) = ((x_bd t nn d (yv p q r s)).length : Int) from by rw [lb, if_neg (show ¬ d = 0 by omega)]]
      refine c89 hm' ⟨by omega, by omega⟩ ⟨by omega, by omega⟩ (by omega) ?_
      refine ⟨_, rfl, ?_⟩
      refine s96_71 rfl ?_
      refine s96_72 ?_
      refine s96_74 rfl ?_
      refine s96_75 (by first | assumption | rfl) (by simp) ?_
      refine c90 hm' ⟨by omega, by omega⟩ (by rw [List.length_append]; omega) ?_
      refine ⟨_, rfl, ?_⟩
      refine s96_78 rfl ?_
      refine s96_79 ?_
      refine s96_81 rfl ?_
      refine s96_82 (by first | assumption | rfl) (by simp) ?_
      refine c89 hm' ⟨by omega, by omega⟩ o2 (by rw [List.length_append, List.length_append]; omega) ?_
      refine ⟨_, rfl, ?_⟩
      refine s96_85 rfl ?_
      refine s96_86 ⟨by omega, by omega⟩ (fun h86 => ?_) (fun h86 => ?_)
      · refine s96_97 rfl ?_
        refine s96_98 rfl ?_
        refine s96_99 rfl ?_
        refine s96_101 rfl ?_
        refine s96_103 rfl ?_
        refine s96_105 rfl ?_
        refine s96_107 ?_
        refine s96_108 rfl (by simp) ?_
        refine c94 hm' ht o4 hmq o6 o7 (Or.inr rfl) (by simp only [List.length_append]; omega) ?_
        refine ⟨_, rfl, ?_⟩
        rw [if_pos (show (1 : Int) = 1 from rfl)]
        refine s96_111 rfl ?_
        refine tail _ ?_
        rw [hh _ rfl]
        first
          | (exfalso; omega)
          | rw [if_pos (show d = 0 by omega), List.append_nil]
          | rw [if_neg (show ¬ d = 0 by omega)]
      · refine s96_89 rfl ?_
        refine s96_90 ?_
        refine s96_92 ?_
        refine s96_94 (by first | assumption | rfl) (by simp) ?_
        refine c90 hm' ⟨by omega, by omega⟩ (by rw [List.length_append, List.length_append, List.length_append]; omega) ?_
        refine ⟨_, rfl, ?_⟩
        refine s96_97 rfl ?_
        refine s96_98 rfl ?_
        refine s96_99 rfl ?_
        refine s96_101 rfl ?_
        refine s96_103 rfl ?_
        refine s96_105 rfl ?_
        refine s96_107 ?_
        refine s96_108 rfl (by simp) ?_
        refine c94 hm' ht o4 hmq o6 o7 (Or.inr rfl) (by simp only [List.length_append]; omega) ?_
        refine ⟨_, rfl, ?_⟩
        rw [if_pos (show (1 : Int) = 1 from rfl)]
        refine s96_111 rfl ?_
        refine tail _ ?_
        rw [hh _ rfl]
        first
          | (exfalso; omega)
          | rw [if_pos (show d = 0 by omega), List.append_nil]
          | rw [if_neg (show ¬ d = 0 by omega)]
  have hm38 := hm.1
  unfold rg at start
  cases m with
  | true =>
    rw [if_pos rfl] at hm38 start
    have e38 : x_uf g 100 18 0 100 38 = 1 := by rw [x_uf_ne (by omega)]; exact hm38
    refine s96_0 rfl ?_
    refine s96_1 ?_
    refine s96_2 (by first | assumption | rfl) (by first | assumption | (exact hpo _) | rfl | decide) (by first | assumption | decide | omega) ?_
    refine s96_5 rfl ?_
    refine s96_6 rfl ?_
    refine s96_7 (by first | assumption | rfl) (by first | assumption | (exact hpo _) | rfl | decide) (by first | assumption | decide | omega) ?_
    rw [e38]
    refine s96_10 ⟨by omega, by omega⟩ (fun h10 => ?_) (fun h10 => ?_)
    · exfalso; omega
    · refine s96_13 ?_
      refine s96_14 ?_
      refine s96_21 (by first | assumption | rfl) (by first | assumption | (exact hpo _) | rfl | decide) (by first | assumption | decide | omega) ?_
      rw [mw_nil_t]
      exact start
  | false =>
    rw [if_neg (by decide)] at hm38 start
    have e38 : x_uf g 100 18 0 100 38 = 0 := by rw [x_uf_ne (by omega)]; exact hm38
    refine s96_0 rfl ?_
    refine s96_1 ?_
    refine s96_2 (by first | assumption | rfl) (by first | assumption | (exact hpo _) | rfl | decide) (by first | assumption | decide | omega) ?_
    refine s96_5 rfl ?_
    refine s96_6 rfl ?_
    refine s96_7 (by first | assumption | rfl) (by first | assumption | (exact hpo _) | rfl | decide) (by first | assumption | decide | omega) ?_
    rw [e38]
    refine s96_10 ⟨by omega, by omega⟩ (fun h10 => ?_) (fun h10 => ?_)
    · refine s96_17 rfl ?_
      refine s96_18 (by first | assumption | rfl) (by first | assumption | (exact hpo _) | rfl | decide) (by first | assumption | decide | omega) ?_
      refine s96_21 (by first | assumption | rfl) (by first | assumption | (exact hpo _) | rfl | decide) (by first | assumption | decide | omega) ?_
      rw [mw_nil_f]
      exact start
    · exfalso; omega
end MX
