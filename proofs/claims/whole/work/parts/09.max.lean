/-! 09.max: Math.max, by the kit's own row. -/
section XX
variable {S : Nat × (Nat → Int32)} {k pc : Nat} {L : List (Option Value)} {st : List Value} {μ : xM} {n : Nat} {Q : xQ}
theorem x_max {idx : Nat} {x y : Int32} (hd : decode (mC k) pc = .ok (.invokestatic idx, 3)) (hl : Cond.methodLink (mY k).cls idx Lib.Math.max.name ∈ x_Ts) (hs : Cond.static Lib.Math.max.name ∈ x_Ts) (hini : Cond.initialized "java/lang/Math" ∈ x_Ts) (hcode : Cond.code Lib.Math.max.name Lib.Math.max.code 2 (some .int) ∈ x_Ts) (hk : 1 ≤ mK k ∧ 24 ≤ mW k) (hst : st.length ≤ 4) (h : x_V S k (pc + 3) L (.int (if x < y then y else x) :: st) μ n Q) : x_V S k pc L (.int y :: .int x :: st) μ n Q := by
  intro w p l e R s m args below meth c H locs cells slots ls hG
  have hts := hG.1.2.2.2.2.2.2.1
  have hrm := hG.1.2.2.2.2.2.2.2.2.1
  have hr := hG.2.2.2.2.2
  refine va_mmax hG.1.1 hG.1.2.1 (hG.1.2.2.1.trans hG.2.2.1.1.symm) hG.1.2.2.2.2.2.1 (hts _ hl) (hts _ hs) (hts _ hini) (hts _ hcode) (by omega) (by have := x_sum w st; omega) (by have := hr.2.1; omega) (by have := hr.2.2; omega) hd ?_
  exact h w p l e R s m args below meth c H locs cells slots ls ⟨hG.1, hG.2.1, hG.2.2.1, x_cs (x_ok_int _ _) (x_tl (x_tl hG.2.2.2.1)), hG.2.2.2.2⟩
theorem v_max {idx : Nat} {x y : Int} (hd : decode (mC k) pc = .ok (.invokestatic idx, 3)) (hl : Cond.methodLink (mY k).cls idx Lib.Math.max.name ∈ x_Ts) (hs : Cond.static Lib.Math.max.name ∈ x_Ts) (hini : Cond.initialized "java/lang/Math" ∈ x_Ts) (hcode : Cond.code Lib.Math.max.name Lib.Math.max.code 2 (some .int) ∈ x_Ts) (hk : 1 ≤ mK k ∧ 24 ≤ mW k) (hst : st.length ≤ 4) (hx : ib x) (hy : ib y) (h : x_V S k (pc + 3) L (.int (I (if x < y then y else x)) :: st) μ n Q) : x_V S k pc L (.int (I y) :: .int (I x) :: st) μ n Q := by
  refine x_max hd hl hs hini hcode hk hst ?_
  by_cases q : x < y
  · rw [if_pos ((I_lt hx hy).mpr q)]
    rw [if_pos q] at h
    exact h
  · rw [if_neg (fun z => q ((I_lt hx hy).mp z))]
    rw [if_neg q] at h
    exact h
end XX
