/-! 07.vm: the memory once all is made: pointers stand fast (x_pt), everything else is an int, kept as a mathematical integer (the law's long array: an int widened). -/
section XI
def I (z : Int) : Int32 := Int32.ofInt z
def ib (z : Int) : Prop := -2147483648 ≤ z ∧ z ≤ 2147483647
theorem I_toInt {z : Int} (h : ib z) : (I z).toInt = z := Int32.toInt_ofInt_of_le (by have := h.1; omega) (by have := h.2; omega)
theorem I_of (x : Int32) : I x.toInt = x := by unfold I; exact Int32.ofInt_toInt x
theorem ib_of (x : Int32) : ib x.toInt := ⟨by have := x.le_toInt; omega, by have := x.toInt_lt; omega⟩
theorem I_add (x y : Int) : I x + I y = I (x + y) := by unfold I; exact (Int32.ofInt_add x y).symm
theorem I_sub (x y : Int) : I x - I y = I (x - y) := by unfold I; exact (Int32.ofInt_sub x y).symm
theorem I_mul (x y : Int) : I x * I y = I (x * y) := by unfold I; exact (Int32.ofInt_mul x y).symm
theorem I_inj {x y : Int} (hx : ib x) (hy : ib y) : I x = I y ↔ x = y := by
  rw [← Int32.toInt_inj, I_toInt hx, I_toInt hy]
theorem I_lt {x y : Int} (hx : ib x) (hy : ib y) : I x < I y ↔ x < y := by
  rw [Int32.lt_iff_toInt_lt, I_toInt hx, I_toInt hy]
theorem I_le {x y : Int} (hx : ib x) (hy : ib y) : I x ≤ I y ↔ x ≤ y := by
  rw [Int32.le_iff_toInt_le, I_toInt hx, I_toInt hy]
theorem I_0 : I 0 = 0 := by decide +kernel
theorem ib_0 : ib 0 := ⟨by omega, by omega⟩
theorem I_div {x y : Int} (hx : ib x) (hy : ib y) (hx0 : 0 ≤ x) (hy0 : 0 < y) : I x / I y = I (x / y) := by
  have hq : ib (x / y) := by
    have h1 : 0 ≤ x / y := Int.ediv_nonneg hx0 (by omega)
    have h2 : x / y ≤ x := Int.ediv_le_self y hx0
    have := hx.2
    exact ⟨by omega, by omega⟩
  rw [← Int32.toInt_inj, I_toInt hq, Int32.toInt_div_of_ne_left _ _ (fun e => by
    have h3 : (I x).toInt = Int32.minValue.toInt := by rw [e]
    rw [I_toInt hx] at h3
    have h4 : Int32.minValue.toInt = -2147483648 := by decide +kernel
    omega), I_toInt hx, I_toInt hy]
  exact Int.tdiv_eq_ediv_of_nonneg hx0
theorem I_rem {x y : Int} (hx : ib x) (hy : ib y) (hx0 : 0 ≤ x) (hy0 : 0 < y) : I x - I x / I y * I y = I (x % y) := by
  rw [I_div hx hy hx0 hy0, I_mul, I_sub, Int.emod_def, Int.mul_comm y]
theorem I_nat {x : Int} (hx : ib x) : (I x).toNatClampNeg = x.toNat := by
  show (I x).toInt.toNat = x.toNat
  rw [I_toInt hx]
theorem I_in {x : Int} {N : Nat} (h0 : 0 ≤ x) (h1 : x < N) (hN : (N : Int) ≤ 2147483647) : vp_in (I x) N := by
  have hb : ib x := ⟨by omega, by omega⟩
  intro h
  rcases h with h | h
  · rw [← I_0, I_lt hb ib_0] at h
    omega
  · rw [I_nat hb] at h
    omega
theorem I_ne0 {y : Int} (hy : ib y) (h : y ≠ 0) : ¬ I y = 0 := by
  rw [← I_0, I_inj hy ib_0]
  exact h
end XI
section XV
def x_uf (g : Nat → Nat → Int) (a i : Nat) (z : Int) : Nat → Nat → Int := fun b j => if b = a ∧ j = i then z else g b j
def x_vm (g : Nat → Nat → Int) : xM := fun a i => match x_pt a i with
  | some v => v
  | none => if a = x_out then .long (I (g a i)).toInt64 else .int (I (g a i))
theorem x_uf_eq (g : Nat → Nat → Int) (a i : Nat) (x : Int) : x_uf g a i x a i = x := by
  unfold x_uf
  rw [if_pos ⟨rfl, rfl⟩]
theorem x_uf_ne {g : Nat → Nat → Int} {a i b j : Nat} {x : Int} (h : ¬ (b = a ∧ j = i)) : x_uf g a i x b j = g b j := by
  unfold x_uf
  rw [if_neg h]
theorem x_vm_i {g : Nat → Nat → Int} {a i : Nat} (hp : x_pt a i = none) (ha : a ≠ x_out) : x_vm g a i = .int (I (g a i)) := by
  unfold x_vm
  rw [hp]
  exact if_neg ha
theorem x_vm_p {g : Nat → Nat → Int} {a i : Nat} {v : Value} (hp : x_pt a i = some v) : x_vm g a i = v := by
  unfold x_vm
  rw [hp]
theorem x_vm_up {g : Nat → Nat → Int} {a i : Nat} {x : Int} (hp : x_pt a i = none) (ha : a ≠ x_out) : x_up (x_vm g) a i (.int (I x)) = x_vm (x_uf g a i x) := by
  funext b j
  unfold x_up
  by_cases h : b = a ∧ j = i
  · rw [if_pos h, h.1, h.2, x_vm_i hp ha, x_uf_eq]
  · rw [if_neg h]
    unfold x_vm
    rw [x_uf_ne h]
theorem x_vm_upl {g : Nat → Nat → Int} {i : Nat} {x : Int} (hp : x_pt x_out i = none) : x_up (x_vm g) x_out i (.long (I x).toInt64) = x_vm (x_uf g x_out i x) := by
  funext b j
  unfold x_up
  by_cases h : b = x_out ∧ j = i
  · rw [if_pos h, h.1, h.2]
    unfold x_vm
    rw [hp, x_uf_eq]
    exact (if_pos rfl).symm
  · rw [if_neg h]
    unfold x_vm
    rw [x_uf_ne h]
variable {S : Nat × (Nat → Int32)} {k pc : Nat} {L : List (Option Value)} {st : List Value} {μ : xM} {g : Nat → Nat → Int} {n : Nat} {Q : xQ}
theorem v_get {ci N i idx a : Nat} {C : String} {T : u_T} {ty : Nat → FieldType} (hF : x_CF ci C T N ty) (hd : decode (mC k) pc = .ok (.getfield idx, 3)) (hi : i < N) (hl : Cond.fieldLink (mY k).cls idx (T i).1 (T i).2.1 (T i).2.2.1 ∈ x_Ts) (hs : x_sh a = (ci, N)) (hp : x_pt a i = none) (ha : a ≠ x_out) (h : x_V S k (pc + 3) L (.int (I (g a i)) :: st) (x_vm g) n Q) : x_V S k pc L (.ref a :: st) (x_vm g) n Q :=
  x_get hF hd hi hl hs (by rw [x_vm_i hp ha]; exact h)
theorem v_getp {ci N i idx a : Nat} {C : String} {T : u_T} {ty : Nat → FieldType} {v : Value} (hF : x_CF ci C T N ty) (hd : decode (mC k) pc = .ok (.getfield idx, 3)) (hi : i < N) (hl : Cond.fieldLink (mY k).cls idx (T i).1 (T i).2.1 (T i).2.2.1 ∈ x_Ts) (hs : x_sh a = (ci, N)) (hp : x_pt a i = some v) (h : x_V S k (pc + 3) L (v :: st) (x_vm g) n Q) : x_V S k pc L (.ref a :: st) (x_vm g) n Q :=
  x_get hF hd hi hl hs (by rw [x_vm_p hp]; exact h)
theorem v_put {ci N i idx a : Nat} {C : String} {T : u_T} {ty : Nat → FieldType} {x : Int} (hF : x_CF ci C T N ty) (hd : decode (mC k) pc = .ok (.putfield idx, 3)) (hi : i < N) (hfin : (T i).2.2.2 = false) (hl : Cond.fieldLink (mY k).cls idx (T i).1 (T i).2.1 (T i).2.2.1 ∈ x_Ts) (hs : x_sh a = (ci, N)) (hty : ty i = .int) (hp : x_pt a i = none) (ha : a ≠ x_out) (h : x_V S k (pc + 3) L st (x_vm (x_uf g a i x)) n Q) : x_V S k pc L (.int (I x) :: .ref a :: st) (x_vm g) n Q :=
  x_put hF hd hi hfin hl hs (fun _ => by rw [hty]; exact ⟨rfl, rfl⟩) (by rw [x_vm_up hp ha]; exact h)
theorem v_bool {x : Int} (h : x = 0 ∨ x = 1) : narrow .boolean (.int (I x)) = .int (I x) ∧ fits .boolean (.int (I x)) = true := by
  rcases h with e | e <;> rw [e] <;> exact ⟨by decide +kernel, by decide +kernel⟩
theorem v_putz {ci N i idx a : Nat} {C : String} {T : u_T} {ty : Nat → FieldType} {x : Int} (hF : x_CF ci C T N ty) (hd : decode (mC k) pc = .ok (.putfield idx, 3)) (hi : i < N) (hfin : (T i).2.2.2 = false) (hl : Cond.fieldLink (mY k).cls idx (T i).1 (T i).2.1 (T i).2.2.1 ∈ x_Ts) (hs : x_sh a = (ci, N)) (hty : ty i = .boolean) (hx : x = 0 ∨ x = 1) (hp : x_pt a i = none) (ha : a ≠ x_out) (h : x_V S k (pc + 3) L st (x_vm (x_uf g a i x)) n Q) : x_V S k pc L (.int (I x) :: .ref a :: st) (x_vm g) n Q :=
  x_put hF hd hi hfin hl hs (fun _ => by rw [hty]; exact v_bool hx) (by rw [x_vm_up hp ha]; exact h)
theorem v_iald {N a : Nat} {i : Int} (hd : decode (mC k) pc = .ok (.iaload, 1)) (hs : x_sh a = (100, N)) (h0 : 0 ≤ i) (h1 : i < N) (hN : (N : Int) ≤ 2147483647) (hp : x_pt a i.toNat = none) (ha : a ≠ x_out) (h : x_V S k (pc + 1) L (.int (I (g a i.toNat)) :: st) (x_vm g) n Q) : x_V S k pc L (.int (I i) :: .ref a :: st) (x_vm g) n Q :=
  x_iald hd hs (I_in h0 h1 hN) (by rw [I_nat ⟨by omega, by omega⟩, x_vm_i hp ha]; exact h)
theorem v_zald {N a : Nat} {i : Int} (hd : decode (mC k) pc = .ok (.baload, 1)) (hs : x_sh a = (101, N)) (h0 : 0 ≤ i) (h1 : i < N) (hN : (N : Int) ≤ 2147483647) (hp : x_pt a i.toNat = none) (ha : a ≠ x_out) (h : x_V S k (pc + 1) L (.int (I (g a i.toNat)) :: st) (x_vm g) n Q) : x_V S k pc L (.int (I i) :: .ref a :: st) (x_vm g) n Q :=
  x_zald hd hs (I_in h0 h1 hN) (by rw [I_nat ⟨by omega, by omega⟩, x_vm_i hp ha]; exact h)
theorem v_aald {N a kd : Nat} {i : Int} {v : Value} (hd : decode (mC k) pc = .ok (.aaload, 1)) (hs : x_sh a = (kd, N)) (hkd : kd = 103 ∨ kd = 104) (h0 : 0 ≤ i) (h1 : i < N) (hN : (N : Int) ≤ 2147483647) (hp : x_pt a i.toNat = some v) (h : x_V S k (pc + 1) L (v :: st) (x_vm g) n Q) : x_V S k pc L (.int (I i) :: .ref a :: st) (x_vm g) n Q :=
  x_aald hd hs hkd (I_in h0 h1 hN) (by rw [I_nat ⟨by omega, by omega⟩, x_vm_p hp]; exact h)
theorem v_lald (hd : decode (mC k) pc = .ok (.laload, 1)) (hs : x_sh x_out = (102, 1)) (hp : x_pt x_out 0 = none) (h : x_V S k (pc + 1) L (.long (I (g x_out 0)).toInt64 :: st) (x_vm g) n Q) : x_V S k pc L (.int (I 0) :: .ref x_out :: st) (x_vm g) n Q :=
  x_lald hd hs (I_in (by omega) (by omega) (by omega)) (by
    have e : x_vm g x_out 0 = .long (I (g x_out 0)).toInt64 := by
      unfold x_vm
      rw [hp]
      exact if_pos rfl
    rw [I_nat ib_0]
    show x_V S k (pc + 1) L (x_vm g x_out 0 :: st) (x_vm g) n Q
    rw [e]; exact h)
theorem v_iast {N a : Nat} {i x : Int} (hd : decode (mC k) pc = .ok (.iastore, 1)) (hs : x_sh a = (100, N)) (h0 : 0 ≤ i) (h1 : i < N) (hN : (N : Int) ≤ 2147483647) (hp : x_pt a i.toNat = none) (ha : a ≠ x_out) (h : x_V S k (pc + 1) L st (x_vm (x_uf g a i.toNat x)) n Q) : x_V S k pc L (.int (I x) :: .int (I i) :: .ref a :: st) (x_vm g) n Q :=
  x_iast hd hs (I_in h0 h1 hN) (by rw [I_nat ⟨by omega, by omega⟩, x_vm_up hp ha]; exact h)
theorem v_zast {N a : Nat} {i x : Int} (hd : decode (mC k) pc = .ok (.bastore, 1)) (hs : x_sh a = (101, N)) (h0 : 0 ≤ i) (h1 : i < N) (hN : (N : Int) ≤ 2147483647) (hx : x = 0 ∨ x = 1) (hp : x_pt a i.toNat = none) (ha : a ≠ x_out) (h : x_V S k (pc + 1) L st (x_vm (x_uf g a i.toNat x)) n Q) : x_V S k pc L (.int (I x) :: .int (I i) :: .ref a :: st) (x_vm g) n Q :=
  x_zast hd hs (I_in h0 h1 hN) (v_bool hx).1 (by rw [I_nat ⟨by omega, by omega⟩, x_vm_up hp ha]; exact h)
theorem v_last {x : Int} (hd : decode (mC k) pc = .ok (.lastore, 1)) (hs : x_sh x_out = (102, 1)) (hp : x_pt x_out 0 = none) (h : x_V S k (pc + 1) L st (x_vm (x_uf g x_out 0 x)) n Q) : x_V S k pc L (.long (I x).toInt64 :: .int (I 0) :: .ref x_out :: st) (x_vm g) n Q :=
  x_last hd hs (I_in (by omega) (by omega) (by omega)) (by
    rw [I_nat ib_0]
    show x_V S k (pc + 1) L st (x_up (x_vm g) x_out 0 (.long (I x).toInt64)) n Q
    rw [x_vm_upl hp]; exact h)
theorem v_tald {i : Int} (hd : decode (mC k) pc = .ok (.iaload, 1)) (h0 : 0 ≤ i) (h1 : i < x_rowsN) (hN : (x_rowsN : Int) ≤ 2147483647) (h : x_V S k (pc + 1) L (.int (x_rows i.toNat) :: st) μ n Q) : x_V S k pc L (.int (I i) :: .ref 0 :: st) μ n Q :=
  x_tald hd (I_in h0 h1 hN) (by rw [I_nat ⟨by omega, by omega⟩]; exact h)
theorem v_sald {i : Int} (hd : decode (mC k) pc = .ok (.iaload, 1)) (h0 : 0 ≤ i) (h1 : i < S.1) (hN : (S.1 : Int) ≤ 2147483647) (h : x_V S k (pc + 1) L (.int (S.2 i.toNat) :: st) μ n Q) : x_V S k pc L (.int (I i) :: .ref 1 :: st) μ n Q :=
  x_sald hd (I_in h0 h1 hN) (by rw [I_nat ⟨by omega, by omega⟩]; exact h)
theorem v_iadd {x y : Int} (hd : decode (mC k) pc = .ok (.iadd, 1)) (h : x_V S k (pc + 1) L (.int (I (x + y)) :: st) μ n Q) : x_V S k pc L (.int (I y) :: .int (I x) :: st) μ n Q :=
  x_iadd hd (by rw [I_add]; exact h)
theorem v_isub {x y : Int} (hd : decode (mC k) pc = .ok (.isub, 1)) (h : x_V S k (pc + 1) L (.int (I (x - y)) :: st) μ n Q) : x_V S k pc L (.int (I y) :: .int (I x) :: st) μ n Q :=
  x_isub hd (by rw [I_sub]; exact h)
theorem v_imul {x y : Int} (hd : decode (mC k) pc = .ok (.imul, 1)) (h : x_V S k (pc + 1) L (.int (I (x * y)) :: st) μ n Q) : x_V S k pc L (.int (I y) :: .int (I x) :: st) μ n Q :=
  x_imul hd (by rw [I_mul]; exact h)
theorem v_idiv {x y : Int} (hd : decode (mC k) pc = .ok (.idiv, 1)) (hx : ib x) (hy : ib y) (hx0 : 0 ≤ x) (hy0 : 0 < y) (h : x_V S k (pc + 1) L (.int (I (x / y)) :: st) μ n Q) : x_V S k pc L (.int (I y) :: .int (I x) :: st) μ n Q :=
  x_idiv (I_ne0 hy (by omega)) hd (by rw [I_div hx hy hx0 hy0]; exact h)
theorem v_irem {x y : Int} (hd : decode (mC k) pc = .ok (.irem, 1)) (hx : ib x) (hy : ib y) (hx0 : 0 ≤ x) (hy0 : 0 < y) (h : x_V S k (pc + 1) L (.int (I (x % y)) :: st) μ n Q) : x_V S k pc L (.int (I y) :: .int (I x) :: st) μ n Q :=
  x_irem (I_ne0 hy (by omega)) hd (by rw [I_rem hx hy hx0 hy0]; exact h)
theorem v_iinc {j : Nat} {z x : Int} (hd : decode (mC k) pc = .ok (.iinc j z, 3)) (hl : L[j]? = some (some (.int (I x)))) (hj : j < mL k) (h : x_V S k (pc + 3) (L.set j (some (.int (I (x + z))))) st μ n Q) : x_V S k pc L st μ n Q :=
  x_iinc hd hl (I_add x z) hj h
theorem v_if_eq {x : Int} {off : Int} {tgt : Nat} (hd : decode (mC k) pc = .ok (.ifCond .eq off, 3)) (ht : (pc : Int) + off = (tgt : Int)) (hx : ib x) (kt : x = 0 → x_V S k tgt L st μ n Q) (kf : x ≠ 0 → x_V S k (pc + 3) L st μ n Q) : x_V S k pc L (.int (I x) :: st) μ n Q :=
  x_if_eq hd ht (fun q => kt (by rw [← I_0, I_inj hx ib_0] at q; exact q)) (fun q => kf (by rw [← I_0, I_inj hx ib_0] at q; omega))
theorem v_icmp_eq {x y : Int} {off : Int} {tgt : Nat} (hd : decode (mC k) pc = .ok (.if_icmp .eq off, 3)) (ht : (pc : Int) + off = (tgt : Int)) (hx : ib x) (hy : ib y) (kt : x = y → x_V S k tgt L st μ n Q) (kf : x ≠ y → x_V S k (pc + 3) L st μ n Q) : x_V S k pc L (.int (I y) :: .int (I x) :: st) μ n Q :=
  x_icmp_eq hd ht (fun q => kt (by rw [I_inj hx hy] at q; exact q)) (fun q => kf (by rw [I_inj hx hy] at q; omega))
theorem v_if_ne {x : Int} {off : Int} {tgt : Nat} (hd : decode (mC k) pc = .ok (.ifCond .ne off, 3)) (ht : (pc : Int) + off = (tgt : Int)) (hx : ib x) (kt : x ≠ 0 → x_V S k tgt L st μ n Q) (kf : x = 0 → x_V S k (pc + 3) L st μ n Q) : x_V S k pc L (.int (I x) :: st) μ n Q :=
  x_if_ne hd ht (fun q => kt (by rw [← I_0, I_inj hx ib_0] at q; omega)) (fun q => kf (by rw [← I_0, I_inj hx ib_0] at q; exact q))
theorem v_icmp_ne {x y : Int} {off : Int} {tgt : Nat} (hd : decode (mC k) pc = .ok (.if_icmp .ne off, 3)) (ht : (pc : Int) + off = (tgt : Int)) (hx : ib x) (hy : ib y) (kt : x ≠ y → x_V S k tgt L st μ n Q) (kf : x = y → x_V S k (pc + 3) L st μ n Q) : x_V S k pc L (.int (I y) :: .int (I x) :: st) μ n Q :=
  x_icmp_ne hd ht (fun q => kt (by rw [I_inj hx hy] at q; omega)) (fun q => kf (by rw [I_inj hx hy] at q; exact q))
theorem v_if_lt {x : Int} {off : Int} {tgt : Nat} (hd : decode (mC k) pc = .ok (.ifCond .lt off, 3)) (ht : (pc : Int) + off = (tgt : Int)) (hx : ib x) (kt : x < 0 → x_V S k tgt L st μ n Q) (kf : 0 ≤ x → x_V S k (pc + 3) L st μ n Q) : x_V S k pc L (.int (I x) :: st) μ n Q :=
  x_if_lt hd ht (fun q => kt (by rw [← I_0, I_lt hx ib_0] at q; exact q)) (fun q => kf (by rw [← I_0, I_lt hx ib_0] at q; omega))
theorem v_icmp_lt {x y : Int} {off : Int} {tgt : Nat} (hd : decode (mC k) pc = .ok (.if_icmp .lt off, 3)) (ht : (pc : Int) + off = (tgt : Int)) (hx : ib x) (hy : ib y) (kt : x < y → x_V S k tgt L st μ n Q) (kf : y ≤ x → x_V S k (pc + 3) L st μ n Q) : x_V S k pc L (.int (I y) :: .int (I x) :: st) μ n Q :=
  x_icmp_lt hd ht (fun q => kt (by rw [I_lt hx hy] at q; exact q)) (fun q => kf (by rw [I_lt hx hy] at q; omega))
theorem v_if_ge {x : Int} {off : Int} {tgt : Nat} (hd : decode (mC k) pc = .ok (.ifCond .ge off, 3)) (ht : (pc : Int) + off = (tgt : Int)) (hx : ib x) (kt : 0 ≤ x → x_V S k tgt L st μ n Q) (kf : x < 0 → x_V S k (pc + 3) L st μ n Q) : x_V S k pc L (.int (I x) :: st) μ n Q :=
  x_if_ge hd ht (fun q => kt (by rw [← I_0, I_le ib_0 hx] at q; exact q)) (fun q => kf (by rw [← I_0, I_le ib_0 hx] at q; omega))
theorem v_icmp_ge {x y : Int} {off : Int} {tgt : Nat} (hd : decode (mC k) pc = .ok (.if_icmp .ge off, 3)) (ht : (pc : Int) + off = (tgt : Int)) (hx : ib x) (hy : ib y) (kt : y ≤ x → x_V S k tgt L st μ n Q) (kf : x < y → x_V S k (pc + 3) L st μ n Q) : x_V S k pc L (.int (I y) :: .int (I x) :: st) μ n Q :=
  x_icmp_ge hd ht (fun q => kt (by rw [I_le hy hx] at q; exact q)) (fun q => kf (by rw [I_le hy hx] at q; omega))
theorem v_if_gt {x : Int} {off : Int} {tgt : Nat} (hd : decode (mC k) pc = .ok (.ifCond .gt off, 3)) (ht : (pc : Int) + off = (tgt : Int)) (hx : ib x) (kt : 0 < x → x_V S k tgt L st μ n Q) (kf : x ≤ 0 → x_V S k (pc + 3) L st μ n Q) : x_V S k pc L (.int (I x) :: st) μ n Q :=
  x_if_gt hd ht (fun q => kt (by rw [← I_0, I_lt ib_0 hx] at q; exact q)) (fun q => kf (by rw [← I_0, I_lt ib_0 hx] at q; omega))
theorem v_icmp_gt {x y : Int} {off : Int} {tgt : Nat} (hd : decode (mC k) pc = .ok (.if_icmp .gt off, 3)) (ht : (pc : Int) + off = (tgt : Int)) (hx : ib x) (hy : ib y) (kt : y < x → x_V S k tgt L st μ n Q) (kf : x ≤ y → x_V S k (pc + 3) L st μ n Q) : x_V S k pc L (.int (I y) :: .int (I x) :: st) μ n Q :=
  x_icmp_gt hd ht (fun q => kt (by rw [I_lt hy hx] at q; exact q)) (fun q => kf (by rw [I_lt hy hx] at q; omega))
theorem v_if_le {x : Int} {off : Int} {tgt : Nat} (hd : decode (mC k) pc = .ok (.ifCond .le off, 3)) (ht : (pc : Int) + off = (tgt : Int)) (hx : ib x) (kt : x ≤ 0 → x_V S k tgt L st μ n Q) (kf : 0 < x → x_V S k (pc + 3) L st μ n Q) : x_V S k pc L (.int (I x) :: st) μ n Q :=
  x_if_le hd ht (fun q => kt (by rw [← I_0, I_le hx ib_0] at q; exact q)) (fun q => kf (by rw [← I_0, I_le hx ib_0] at q; omega))
theorem v_icmp_le {x y : Int} {off : Int} {tgt : Nat} (hd : decode (mC k) pc = .ok (.if_icmp .le off, 3)) (ht : (pc : Int) + off = (tgt : Int)) (hx : ib x) (hy : ib y) (kt : x ≤ y → x_V S k tgt L st μ n Q) (kf : y < x → x_V S k (pc + 3) L st μ n Q) : x_V S k pc L (.int (I y) :: .int (I x) :: st) μ n Q :=
  x_icmp_le hd ht (fun q => kt (by rw [I_le hx hy] at q; exact q)) (fun q => kf (by rw [I_le hx hy] at q; omega))
theorem v_ireturn {v : Int} (hd : decode (mC k) pc = .ok (.ireturn, 1)) (hr : mR k = some .int) (h : Q (.inl (some (.int (I v)))) μ n) : x_V S k pc L [.int (I v)] μ n Q := x_ireturn hd hr rfl h
theorem v_zreturn {v : Int} (hd : decode (mC k) pc = .ok (.ireturn, 1)) (hr : mR k = some .boolean) (hv : v = 0 ∨ v = 1) (h : Q (.inl (some (.int (I v)))) μ n) : x_V S k pc L [.int (I v)] μ n Q := x_ireturn hd hr (v_bool hv).1 h
end XV
