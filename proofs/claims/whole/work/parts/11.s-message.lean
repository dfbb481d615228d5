/-! 11.s-message: decode rows and step rows of TradeLink$Message, TradeLink$Outbox, TradeLink$Store; laid by a program. -/
theorem mC_21 : mC 21 = prog_5_method_1_code := rfl
theorem d21_0 : decode (mC 21) 0 = .ok (.aload_n 0, 1) := by rw [mC_21]; decide +kernel
theorem d21_1 : decode (mC 21) 1 = .ok (.invokespecial 3, 3) := by rw [mC_21]; decide +kernel
theorem d21_4 : decode (mC 21) 4 = .ok (.aload_n 0, 1) := by rw [mC_21]; decide +kernel
theorem d21_5 : decode (mC 21) 5 = .ok (.iconst 4, 1) := by rw [mC_21]; decide +kernel
theorem d21_6 : decode (mC 21) 6 = .ok (.newarray .int, 2) := by rw [mC_21]; decide +kernel
theorem d21_8 : decode (mC 21) 8 = .ok (.putfield 11, 3) := by rw [mC_21]; decide +kernel
theorem d21_11 : decode (mC 21) 11 = .ok (.return_, 1) := by rw [mC_21]; decide +kernel
theorem s21_0 {S : Nat × (Nat → Int32)} {L : List (Option Value)} {st : List Value} {n : Nat} {Q : xQ} {μ : xM} {a : Nat} (hl : L[0]? = some (some (.ref a))) (h : x_V S 21 1 L (.ref a :: st) μ n Q) : x_V S 21 0 L (st) μ n Q := x_aload_n d21_0 hl h
theorem s21_0N {S : Nat × (Nat → Int32)} {L : List (Option Value)} {st : List Value} {n : Nat} {Q : xQ} {μ : xM} (hl : L[0]? = some (some .null)) (h : x_V S 21 1 L (.null :: st) μ n Q) : x_V S 21 0 L st μ n Q := x_aload_nN d21_0 hl h
theorem s21_1 {S : Nat × (Nat → Int32)} {L : List (Option Value)} {st : List Value} {n : Nat} {Q : xQ} {μ : xM} {a : Nat} (hst : st.length ≤ 4) (h : x_V S 21 4 L (st) μ n Q) : x_V S 21 1 L (.ref a :: st) μ n Q := x_objInit d21_1 w64 w26 w27 ⟨by decide, by decide⟩ hst h
theorem s21_4 {S : Nat × (Nat → Int32)} {L : List (Option Value)} {st : List Value} {n : Nat} {Q : xQ} {μ : xM} {a : Nat} (hl : L[0]? = some (some (.ref a))) (h : x_V S 21 5 L (.ref a :: st) μ n Q) : x_V S 21 4 L (st) μ n Q := x_aload_n d21_4 hl h
theorem s21_4N {S : Nat × (Nat → Int32)} {L : List (Option Value)} {st : List Value} {n : Nat} {Q : xQ} {μ : xM} (hl : L[0]? = some (some .null)) (h : x_V S 21 5 L (.null :: st) μ n Q) : x_V S 21 4 L st μ n Q := x_aload_nN d21_4 hl h
theorem s21_5 {S : Nat × (Nat → Int32)} {L : List (Option Value)} {st : List Value} {n : Nat} {Q : xQ} {μ : xM}  (h : x_V S 21 6 L (.int (I 4) :: st) μ n Q) : x_V S 21 5 L (st) μ n Q := x_iconst (by decide +kernel) d21_5 h
theorem s21_6 {S : Nat × (Nat → Int32)} {L : List (Option Value)} {st : List Value} {n : Nat} {Q : xQ} {μ : xM} {N : Nat} {i : Int32} (hs : x_sh n = (100, N)) (hi : ¬ i < 0) (hN : i.toNatClampNeg = N) (hb : N ≤ 8000) (hn : n < x_NM) (h : x_V S 21 8 L (.ref n :: st) (x_nw μ n (fun _ => defaultValue (x_ty 100))) (n + 1) Q) : x_V S 21 6 L (.int i :: st) μ n Q := x_newa (kd := 100) d21_6 w50 rfl (by decide) hs hi hN (Nat.le_trans (Nat.mul_le_mul_right _ hb) (by decide)) hn h
theorem s21_8 {S : Nat × (Nat → Int32)} {L : List (Option Value)} {st : List Value} {n : Nat} {Q : xQ} {μ : xM} {a b : Nat} (hs : x_sh a = (3, 4)) (h : x_V S 21 11 L (st) (x_up μ a 3 (.ref b)) n Q) : x_V S 21 8 L (.ref b :: .ref a :: st) μ n Q := x_putF (i := 3) cf3 d21_8 (by decide) rfl rfl rfl w73 hs (fun _ => ⟨rfl, rfl⟩) h
theorem s21_11 {S : Nat × (Nat → Int32)} {L : List (Option Value)} {st : List Value} {n : Nat} {Q : xQ} {μ : xM}  (h : Q (.inl none) μ n) : x_V S 21 11 L ([]) μ n Q := x_return d21_11 rfl h
theorem mC_22 : mC 22 = prog_5_method_2_code := rfl
theorem d22_0 : decode (mC 22) 0 = .ok (.aload_n 0, 1) := by rw [mC_22]; decide +kernel
theorem d22_1 : decode (mC 22) 1 = .ok (.iload_n 1, 1) := by rw [mC_22]; decide +kernel
theorem d22_2 : decode (mC 22) 2 = .ok (.putfield 17, 3) := by rw [mC_22]; decide +kernel
theorem d22_5 : decode (mC 22) 5 = .ok (.aload_n 0, 1) := by rw [mC_22]; decide +kernel
theorem d22_6 : decode (mC 22) 6 = .ok (.iload_n 2, 1) := by rw [mC_22]; decide +kernel
theorem d22_7 : decode (mC 22) 7 = .ok (.putfield 21, 3) := by rw [mC_22]; decide +kernel
theorem d22_10 : decode (mC 22) 10 = .ok (.aload_n 0, 1) := by rw [mC_22]; decide +kernel
theorem d22_11 : decode (mC 22) 11 = .ok (.iload_n 3, 1) := by rw [mC_22]; decide +kernel
theorem d22_12 : decode (mC 22) 12 = .ok (.putfield 24, 3) := by rw [mC_22]; decide +kernel
theorem d22_15 : decode (mC 22) 15 = .ok (.return_, 1) := by rw [mC_22]; decide +kernel
theorem s22_0 {S : Nat × (Nat → Int32)} {L : List (Option Value)} {st : List Value} {n : Nat} {Q : xQ} {μ : xM} {a : Nat} (hl : L[0]? = some (some (.ref a))) (h : x_V S 22 1 L (.ref a :: st) μ n Q) : x_V S 22 0 L (st) μ n Q := x_aload_n d22_0 hl h
theorem s22_0N {S : Nat × (Nat → Int32)} {L : List (Option Value)} {st : List Value} {n : Nat} {Q : xQ} {μ : xM} (hl : L[0]? = some (some .null)) (h : x_V S 22 1 L (.null :: st) μ n Q) : x_V S 22 0 L st μ n Q := x_aload_nN d22_0 hl h
theorem s22_1 {S : Nat × (Nat → Int32)} {L : List (Option Value)} {st : List Value} {n : Nat} {Q : xQ} {μ : xM} {x : Int32} (hl : L[1]? = some (some (.int x))) (h : x_V S 22 2 L (.int x :: st) μ n Q) : x_V S 22 1 L (st) μ n Q := x_iload_n d22_1 hl h
theorem s22_2 {S : Nat × (Nat → Int32)} {L : List (Option Value)} {st : List Value} {n : Nat} {Q : xQ} {g : Nat → Nat → Int} {a : Nat} {x : Int} (hs : x_sh a = (3, 4)) (hp : x_pt a 0 = none) (ha : a ≠ x_out) (h : x_V S 22 5 L (st) (x_vm (x_uf g a 0 x)) n Q) : x_V S 22 2 L (.int (I x) :: .ref a :: st) (x_vm g) n Q := v_put (i := 0) cf3 d22_2 (by decide) rfl w65 hs rfl hp ha h
theorem s22_5 {S : Nat × (Nat → Int32)} {L : List (Option Value)} {st : List Value} {n : Nat} {Q : xQ} {μ : xM} {a : Nat} (hl : L[0]? = some (some (.ref a))) (h : x_V S 22 6 L (.ref a :: st) μ n Q) : x_V S 22 5 L (st) μ n Q := x_aload_n d22_5 hl h
theorem s22_5N {S : Nat × (Nat → Int32)} {L : List (Option Value)} {st : List Value} {n : Nat} {Q : xQ} {μ : xM} (hl : L[0]? = some (some .null)) (h : x_V S 22 6 L (.null :: st) μ n Q) : x_V S 22 5 L st μ n Q := x_aload_nN d22_5 hl h
theorem s22_6 {S : Nat × (Nat → Int32)} {L : List (Option Value)} {st : List Value} {n : Nat} {Q : xQ} {μ : xM} {x : Int32} (hl : L[2]? = some (some (.int x))) (h : x_V S 22 7 L (.int x :: st) μ n Q) : x_V S 22 6 L (st) μ n Q := x_iload_n d22_6 hl h
theorem s22_7 {S : Nat × (Nat → Int32)} {L : List (Option Value)} {st : List Value} {n : Nat} {Q : xQ} {g : Nat → Nat → Int} {a : Nat} {x : Int} (hs : x_sh a = (3, 4)) (hp : x_pt a 1 = none) (ha : a ≠ x_out) (h : x_V S 22 10 L (st) (x_vm (x_uf g a 1 x)) n Q) : x_V S 22 7 L (.int (I x) :: .ref a :: st) (x_vm g) n Q := v_put (i := 1) cf3 d22_7 (by decide) rfl w69 hs rfl hp ha h
theorem s22_10 {S : Nat × (Nat → Int32)} {L : List (Option Value)} {st : List Value} {n : Nat} {Q : xQ} {μ : xM} {a : Nat} (hl : L[0]? = some (some (.ref a))) (h : x_V S 22 11 L (.ref a :: st) μ n Q) : x_V S 22 10 L (st) μ n Q := x_aload_n d22_10 hl h
theorem s22_10N {S : Nat × (Nat → Int32)} {L : List (Option Value)} {st : List Value} {n : Nat} {Q : xQ} {μ : xM} (hl : L[0]? = some (some .null)) (h : x_V S 22 11 L (.null :: st) μ n Q) : x_V S 22 10 L st μ n Q := x_aload_nN d22_10 hl h
theorem s22_11 {S : Nat × (Nat → Int32)} {L : List (Option Value)} {st : List Value} {n : Nat} {Q : xQ} {μ : xM} {x : Int32} (hl : L[3]? = some (some (.int x))) (h : x_V S 22 12 L (.int x :: st) μ n Q) : x_V S 22 11 L (st) μ n Q := x_iload_n d22_11 hl h
theorem s22_12 {S : Nat × (Nat → Int32)} {L : List (Option Value)} {st : List Value} {n : Nat} {Q : xQ} {g : Nat → Nat → Int} {a : Nat} {x : Int} (hs : x_sh a = (3, 4)) (hx : x = 0 ∨ x = 1) (hp : x_pt a 2 = none) (ha : a ≠ x_out) (h : x_V S 22 15 L (st) (x_vm (x_uf g a 2 x)) n Q) : x_V S 22 12 L (.int (I x) :: .ref a :: st) (x_vm g) n Q := v_putz (i := 2) cf3 d22_12 (by decide) rfl w71 hs rfl hx hp ha h
theorem s22_15 {S : Nat × (Nat → Int32)} {L : List (Option Value)} {st : List Value} {n : Nat} {Q : xQ} {μ : xM}  (h : Q (.inl none) μ n) : x_V S 22 15 L ([]) μ n Q := x_return d22_15 rfl h
theorem mC_23 : mC 23 = prog_5_method_3_code := rfl
theorem d23_0 : decode (mC 23) 0 = .ok (.aload_n 0, 1) := by rw [mC_23]; decide +kernel
theorem d23_1 : decode (mC 23) 1 = .ok (.getfield 11, 3) := by rw [mC_23]; decide +kernel
theorem d23_4 : decode (mC 23) 4 = .ok (.iconst 0, 1) := by rw [mC_23]; decide +kernel
theorem d23_5 : decode (mC 23) 5 = .ok (.iload_n 1, 1) := by rw [mC_23]; decide +kernel
theorem d23_6 : decode (mC 23) 6 = .ok (.iastore, 1) := by rw [mC_23]; decide +kernel
theorem d23_7 : decode (mC 23) 7 = .ok (.aload_n 0, 1) := by rw [mC_23]; decide +kernel
theorem d23_8 : decode (mC 23) 8 = .ok (.getfield 11, 3) := by rw [mC_23]; decide +kernel
theorem d23_11 : decode (mC 23) 11 = .ok (.iconst 1, 1) := by rw [mC_23]; decide +kernel
theorem d23_12 : decode (mC 23) 12 = .ok (.iload_n 2, 1) := by rw [mC_23]; decide +kernel
theorem d23_13 : decode (mC 23) 13 = .ok (.iastore, 1) := by rw [mC_23]; decide +kernel
theorem d23_14 : decode (mC 23) 14 = .ok (.aload_n 0, 1) := by rw [mC_23]; decide +kernel
theorem d23_15 : decode (mC 23) 15 = .ok (.getfield 11, 3) := by rw [mC_23]; decide +kernel
theorem d23_18 : decode (mC 23) 18 = .ok (.iconst 2, 1) := by rw [mC_23]; decide +kernel
theorem d23_19 : decode (mC 23) 19 = .ok (.iload_n 3, 1) := by rw [mC_23]; decide +kernel
theorem d23_20 : decode (mC 23) 20 = .ok (.iastore, 1) := by rw [mC_23]; decide +kernel
theorem d23_21 : decode (mC 23) 21 = .ok (.aload_n 0, 1) := by rw [mC_23]; decide +kernel
theorem d23_22 : decode (mC 23) 22 = .ok (.getfield 11, 3) := by rw [mC_23]; decide +kernel
theorem d23_25 : decode (mC 23) 25 = .ok (.iconst 3, 1) := by rw [mC_23]; decide +kernel
theorem d23_26 : decode (mC 23) 26 = .ok (.iload 4, 2) := by rw [mC_23]; decide +kernel
theorem d23_28 : decode (mC 23) 28 = .ok (.iastore, 1) := by rw [mC_23]; decide +kernel
theorem d23_29 : decode (mC 23) 29 = .ok (.return_, 1) := by rw [mC_23]; decide +kernel
theorem s23_0 {S : Nat × (Nat → Int32)} {L : List (Option Value)} {st : List Value} {n : Nat} {Q : xQ} {μ : xM} {a : Nat} (hl : L[0]? = some (some (.ref a))) (h : x_V S 23 1 L (.ref a :: st) μ n Q) : x_V S 23 0 L (st) μ n Q := x_aload_n d23_0 hl h
theorem s23_0N {S : Nat × (Nat → Int32)} {L : List (Option Value)} {st : List Value} {n : Nat} {Q : xQ} {μ : xM} (hl : L[0]? = some (some .null)) (h : x_V S 23 1 L (.null :: st) μ n Q) : x_V S 23 0 L st μ n Q := x_aload_nN d23_0 hl h
theorem s23_1 {S : Nat × (Nat → Int32)} {L : List (Option Value)} {st : List Value} {n : Nat} {Q : xQ} {g : Nat → Nat → Int} {a : Nat} {v : Value} (hs : x_sh a = (3, 4)) (hp : x_pt a 3 = some v) (h : x_V S 23 4 L (v :: st) (x_vm g) n Q) : x_V S 23 1 L (.ref a :: st) (x_vm g) n Q := v_getp (i := 3) cf3 d23_1 (by decide) w73 hs hp h
theorem s23_4 {S : Nat × (Nat → Int32)} {L : List (Option Value)} {st : List Value} {n : Nat} {Q : xQ} {μ : xM}  (h : x_V S 23 5 L (.int (I 0) :: st) μ n Q) : x_V S 23 4 L (st) μ n Q := x_iconst (by decide +kernel) d23_4 h
theorem s23_5 {S : Nat × (Nat → Int32)} {L : List (Option Value)} {st : List Value} {n : Nat} {Q : xQ} {μ : xM} {x : Int32} (hl : L[1]? = some (some (.int x))) (h : x_V S 23 6 L (.int x :: st) μ n Q) : x_V S 23 5 L (st) μ n Q := x_iload_n d23_5 hl h
theorem s23_7 {S : Nat × (Nat → Int32)} {L : List (Option Value)} {st : List Value} {n : Nat} {Q : xQ} {μ : xM} {a : Nat} (hl : L[0]? = some (some (.ref a))) (h : x_V S 23 8 L (.ref a :: st) μ n Q) : x_V S 23 7 L (st) μ n Q := x_aload_n d23_7 hl h
theorem s23_7N {S : Nat × (Nat → Int32)} {L : List (Option Value)} {st : List Value} {n : Nat} {Q : xQ} {μ : xM} (hl : L[0]? = some (some .null)) (h : x_V S 23 8 L (.null :: st) μ n Q) : x_V S 23 7 L st μ n Q := x_aload_nN d23_7 hl h
theorem s23_8 {S : Nat × (Nat → Int32)} {L : List (Option Value)} {st : List Value} {n : Nat} {Q : xQ} {g : Nat → Nat → Int} {a : Nat} {v : Value} (hs : x_sh a = (3, 4)) (hp : x_pt a 3 = some v) (h : x_V S 23 11 L (v :: st) (x_vm g) n Q) : x_V S 23 8 L (.ref a :: st) (x_vm g) n Q := v_getp (i := 3) cf3 d23_8 (by decide) w73 hs hp h
theorem s23_11 {S : Nat × (Nat → Int32)} {L : List (Option Value)} {st : List Value} {n : Nat} {Q : xQ} {μ : xM}  (h : x_V S 23 12 L (.int (I 1) :: st) μ n Q) : x_V S 23 11 L (st) μ n Q := x_iconst (by decide +kernel) d23_11 h
theorem s23_12 {S : Nat × (Nat → Int32)} {L : List (Option Value)} {st : List Value} {n : Nat} {Q : xQ} {μ : xM} {x : Int32} (hl : L[2]? = some (some (.int x))) (h : x_V S 23 13 L (.int x :: st) μ n Q) : x_V S 23 12 L (st) μ n Q := x_iload_n d23_12 hl h
theorem s23_14 {S : Nat × (Nat → Int32)} {L : List (Option Value)} {st : List Value} {n : Nat} {Q : xQ} {μ : xM} {a : Nat} (hl : L[0]? = some (some (.ref a))) (h : x_V S 23 15 L (.ref a :: st) μ n Q) : x_V S 23 14 L (st) μ n Q := x_aload_n d23_14 hl h
theorem s23_14N {S : Nat × (Nat → Int32)} {L : List (Option Value)} {st : List Value} {n : Nat} {Q : xQ} {μ : xM} (hl : L[0]? = some (some .null)) (h : x_V S 23 15 L (.null :: st) μ n Q) : x_V S 23 14 L st μ n Q := x_aload_nN d23_14 hl h
theorem s23_15 {S : Nat × (Nat → Int32)} {L : List (Option Value)} {st : List Value} {n : Nat} {Q : xQ} {g : Nat → Nat → Int} {a : Nat} {v : Value} (hs : x_sh a = (3, 4)) (hp : x_pt a 3 = some v) (h : x_V S 23 18 L (v :: st) (x_vm g) n Q) : x_V S 23 15 L (.ref a :: st) (x_vm g) n Q := v_getp (i := 3) cf3 d23_15 (by decide) w73 hs hp h
theorem s23_18 {S : Nat × (Nat → Int32)} {L : List (Option Value)} {st : List Value} {n : Nat} {Q : xQ} {μ : xM}  (h : x_V S 23 19 L (.int (I 2) :: st) μ n Q) : x_V S 23 18 L (st) μ n Q := x_iconst (by decide +kernel) d23_18 h
theorem s23_19 {S : Nat × (Nat → Int32)} {L : List (Option Value)} {st : List Value} {n : Nat} {Q : xQ} {μ : xM} {x : Int32} (hl : L[3]? = some (some (.int x))) (h : x_V S 23 20 L (.int x :: st) μ n Q) : x_V S 23 19 L (st) μ n Q := x_iload_n d23_19 hl h
theorem s23_21 {S : Nat × (Nat → Int32)} {L : List (Option Value)} {st : List Value} {n : Nat} {Q : xQ} {μ : xM} {a : Nat} (hl : L[0]? = some (some (.ref a))) (h : x_V S 23 22 L (.ref a :: st) μ n Q) : x_V S 23 21 L (st) μ n Q := x_aload_n d23_21 hl h
theorem s23_21N {S : Nat × (Nat → Int32)} {L : List (Option Value)} {st : List Value} {n : Nat} {Q : xQ} {μ : xM} (hl : L[0]? = some (some .null)) (h : x_V S 23 22 L (.null :: st) μ n Q) : x_V S 23 21 L st μ n Q := x_aload_nN d23_21 hl h
theorem s23_22 {S : Nat × (Nat → Int32)} {L : List (Option Value)} {st : List Value} {n : Nat} {Q : xQ} {g : Nat → Nat → Int} {a : Nat} {v : Value} (hs : x_sh a = (3, 4)) (hp : x_pt a 3 = some v) (h : x_V S 23 25 L (v :: st) (x_vm g) n Q) : x_V S 23 22 L (.ref a :: st) (x_vm g) n Q := v_getp (i := 3) cf3 d23_22 (by decide) w73 hs hp h
theorem s23_25 {S : Nat × (Nat → Int32)} {L : List (Option Value)} {st : List Value} {n : Nat} {Q : xQ} {μ : xM}  (h : x_V S 23 26 L (.int (I 3) :: st) μ n Q) : x_V S 23 25 L (st) μ n Q := x_iconst (by decide +kernel) d23_25 h
theorem s23_26 {S : Nat × (Nat → Int32)} {L : List (Option Value)} {st : List Value} {n : Nat} {Q : xQ} {μ : xM} {x : Int32} (hl : L[4]? = some (some (.int x))) (h : x_V S 23 28 L (.int x :: st) μ n Q) : x_V S 23 26 L (st) μ n Q := x_iload d23_26 hl h
theorem s23_29 {S : Nat × (Nat → Int32)} {L : List (Option Value)} {st : List Value} {n : Nat} {Q : xQ} {μ : xM}  (h : Q (.inl none) μ n) : x_V S 23 29 L ([]) μ n Q := x_return d23_29 rfl h
theorem mC_24 : mC 24 = prog_5_method_4_code := rfl
theorem d24_0 : decode (mC 24) 0 = .ok (.aload_n 0, 1) := by rw [mC_24]; decide +kernel
theorem d24_1 : decode (mC 24) 1 = .ok (.getfield 11, 3) := by rw [mC_24]; decide +kernel
theorem d24_4 : decode (mC 24) 4 = .ok (.iconst 1, 1) := by rw [mC_24]; decide +kernel
theorem d24_5 : decode (mC 24) 5 = .ok (.iaload, 1) := by rw [mC_24]; decide +kernel
theorem d24_6 : decode (mC 24) 6 = .ok (.ifCond .le 7, 3) := by rw [mC_24]; decide +kernel
theorem d24_9 : decode (mC 24) 9 = .ok (.iconst 1, 1) := by rw [mC_24]; decide +kernel
theorem d24_10 : decode (mC 24) 10 = .ok (.goto 4, 3) := by rw [mC_24]; decide +kernel
theorem d24_13 : decode (mC 24) 13 = .ok (.iconst 0, 1) := by rw [mC_24]; decide +kernel
theorem d24_14 : decode (mC 24) 14 = .ok (.ireturn, 1) := by rw [mC_24]; decide +kernel
theorem s24_0 {S : Nat × (Nat → Int32)} {L : List (Option Value)} {st : List Value} {n : Nat} {Q : xQ} {μ : xM} {a : Nat} (hl : L[0]? = some (some (.ref a))) (h : x_V S 24 1 L (.ref a :: st) μ n Q) : x_V S 24 0 L (st) μ n Q := x_aload_n d24_0 hl h
theorem s24_0N {S : Nat × (Nat → Int32)} {L : List (Option Value)} {st : List Value} {n : Nat} {Q : xQ} {μ : xM} (hl : L[0]? = some (some .null)) (h : x_V S 24 1 L (.null :: st) μ n Q) : x_V S 24 0 L st μ n Q := x_aload_nN d24_0 hl h
theorem s24_1 {S : Nat × (Nat → Int32)} {L : List (Option Value)} {st : List Value} {n : Nat} {Q : xQ} {g : Nat → Nat → Int} {a : Nat} {v : Value} (hs : x_sh a = (3, 4)) (hp : x_pt a 3 = some v) (h : x_V S 24 4 L (v :: st) (x_vm g) n Q) : x_V S 24 1 L (.ref a :: st) (x_vm g) n Q := v_getp (i := 3) cf3 d24_1 (by decide) w73 hs hp h
theorem s24_4 {S : Nat × (Nat → Int32)} {L : List (Option Value)} {st : List Value} {n : Nat} {Q : xQ} {μ : xM}  (h : x_V S 24 5 L (.int (I 1) :: st) μ n Q) : x_V S 24 4 L (st) μ n Q := x_iconst (by decide +kernel) d24_4 h
theorem s24_6 {S : Nat × (Nat → Int32)} {L : List (Option Value)} {st : List Value} {n : Nat} {Q : xQ} {μ : xM} {x : Int} (hx : ib x) (kt : x ≤ 0 → x_V S 24 13 L (st) μ n Q) (kf : 0 < x → x_V S 24 9 L (st) μ n Q) : x_V S 24 6 L (.int (I x) :: st) μ n Q := v_if_le d24_6 (by decide) hx kt kf
theorem s24_9 {S : Nat × (Nat → Int32)} {L : List (Option Value)} {st : List Value} {n : Nat} {Q : xQ} {μ : xM}  (h : x_V S 24 10 L (.int (I 1) :: st) μ n Q) : x_V S 24 9 L (st) μ n Q := x_iconst (by decide +kernel) d24_9 h
theorem s24_10 {S : Nat × (Nat → Int32)} {L : List (Option Value)} {st : List Value} {n : Nat} {Q : xQ} {μ : xM}  (h : x_V S 24 14 L (st) μ n Q) : x_V S 24 10 L (st) μ n Q := x_goto (tgt := 14) (by decide) d24_10 h
theorem s24_13 {S : Nat × (Nat → Int32)} {L : List (Option Value)} {st : List Value} {n : Nat} {Q : xQ} {μ : xM}  (h : x_V S 24 14 L (.int (I 0) :: st) μ n Q) : x_V S 24 13 L (st) μ n Q := x_iconst (by decide +kernel) d24_13 h
theorem s24_14 {S : Nat × (Nat → Int32)} {L : List (Option Value)} {st : List Value} {n : Nat} {Q : xQ} {μ : xM} {v : Int} (hv : v = 0 ∨ v = 1) (h : Q (.inl (some (.int (I v)))) μ n) : x_V S 24 14 L (.int (I v) :: []) μ n Q := v_zreturn d24_14 rfl hv h
theorem mC_25 : mC 25 = prog_5_method_5_code := rfl
theorem d25_0 : decode (mC 25) 0 = .ok (.aload_n 1, 1) := by rw [mC_25]; decide +kernel
theorem d25_1 : decode (mC 25) 1 = .ok (.invokevirtual 28, 3) := by rw [mC_25]; decide +kernel
theorem d25_4 : decode (mC 25) 4 = .ok (.aload_n 1, 1) := by rw [mC_25]; decide +kernel
theorem d25_5 : decode (mC 25) 5 = .ok (.bipush 8, 2) := by rw [mC_25]; decide +kernel
theorem d25_7 : decode (mC 25) 7 = .ok (.bipush 70, 2) := by rw [mC_25]; decide +kernel
theorem d25_9 : decode (mC 25) 9 = .ok (.invokevirtual 33, 3) := by rw [mC_25]; decide +kernel
theorem d25_12 : decode (mC 25) 12 = .ok (.aload_n 1, 1) := by rw [mC_25]; decide +kernel
theorem d25_13 : decode (mC 25) 13 = .ok (.bipush 9, 2) := by rw [mC_25]; decide +kernel
theorem d25_15 : decode (mC 25) 15 = .ok (.bipush 10, 2) := by rw [mC_25]; decide +kernel
theorem d25_17 : decode (mC 25) 17 = .ok (.invokevirtual 37, 3) := by rw [mC_25]; decide +kernel
theorem d25_20 : decode (mC 25) 20 = .ok (.aload_n 1, 1) := by rw [mC_25]; decide +kernel
theorem d25_21 : decode (mC 25) 21 = .ok (.getfield 40, 3) := by rw [mC_25]; decide +kernel
theorem d25_24 : decode (mC 25) 24 = .ok (.istore_n 2, 1) := by rw [mC_25]; decide +kernel
theorem d25_25 : decode (mC 25) 25 = .ok (.aload_n 1, 1) := by rw [mC_25]; decide +kernel
theorem d25_26 : decode (mC 25) 26 = .ok (.bipush 35, 2) := by rw [mC_25]; decide +kernel
theorem d25_28 : decode (mC 25) 28 = .ok (.aload_n 0, 1) := by rw [mC_25]; decide +kernel
theorem d25_29 : decode (mC 25) 29 = .ok (.getfield 17, 3) := by rw [mC_25]; decide +kernel
theorem d25_32 : decode (mC 25) 32 = .ok (.invokevirtual 33, 3) := by rw [mC_25]; decide +kernel
theorem d25_35 : decode (mC 25) 35 = .ok (.aload_n 1, 1) := by rw [mC_25]; decide +kernel
theorem d25_36 : decode (mC 25) 36 = .ok (.bipush 34, 2) := by rw [mC_25]; decide +kernel
theorem d25_38 : decode (mC 25) 38 = .ok (.aload_n 0, 1) := by rw [mC_25]; decide +kernel
theorem d25_39 : decode (mC 25) 39 = .ok (.getfield 21, 3) := by rw [mC_25]; decide +kernel
theorem d25_42 : decode (mC 25) 42 = .ok (.invokevirtual 37, 3) := by rw [mC_25]; decide +kernel
theorem d25_45 : decode (mC 25) 45 = .ok (.aload_n 0, 1) := by rw [mC_25]; decide +kernel
theorem d25_46 : decode (mC 25) 46 = .ok (.getfield 24, 3) := by rw [mC_25]; decide +kernel
theorem d25_49 : decode (mC 25) 49 = .ok (.ifCond .eq 11, 3) := by rw [mC_25]; decide +kernel
theorem d25_52 : decode (mC 25) 52 = .ok (.aload_n 1, 1) := by rw [mC_25]; decide +kernel
theorem d25_53 : decode (mC 25) 53 = .ok (.bipush 43, 2) := by rw [mC_25]; decide +kernel
theorem d25_55 : decode (mC 25) 55 = .ok (.bipush 89, 2) := by rw [mC_25]; decide +kernel
theorem d25_57 : decode (mC 25) 57 = .ok (.invokevirtual 33, 3) := by rw [mC_25]; decide +kernel
theorem d25_60 : decode (mC 25) 60 = .ok (.aload_n 0, 1) := by rw [mC_25]; decide +kernel
theorem d25_61 : decode (mC 25) 61 = .ok (.aload_n 1, 1) := by rw [mC_25]; decide +kernel
theorem d25_62 : decode (mC 25) 62 = .ok (.invokevirtual 43, 3) := by rw [mC_25]; decide +kernel
theorem d25_65 : decode (mC 25) 65 = .ok (.aload_n 1, 1) := by rw [mC_25]; decide +kernel
theorem d25_66 : decode (mC 25) 66 = .ok (.getfield 40, 3) := by rw [mC_25]; decide +kernel
theorem d25_69 : decode (mC 25) 69 = .ok (.iload_n 2, 1) := by rw [mC_25]; decide +kernel
theorem d25_70 : decode (mC 25) 70 = .ok (.isub, 1) := by rw [mC_25]; decide +kernel
theorem d25_71 : decode (mC 25) 71 = .ok (.istore_n 3, 1) := by rw [mC_25]; decide +kernel
theorem d25_72 : decode (mC 25) 72 = .ok (.aload_n 1, 1) := by rw [mC_25]; decide +kernel
theorem d25_73 : decode (mC 25) 73 = .ok (.iload_n 2, 1) := by rw [mC_25]; decide +kernel
theorem d25_74 : decode (mC 25) 74 = .ok (.iconst 3, 1) := by rw [mC_25]; decide +kernel
theorem d25_75 : decode (mC 25) 75 = .ok (.isub, 1) := by rw [mC_25]; decide +kernel
theorem d25_76 : decode (mC 25) 76 = .ok (.bipush 48, 2) := by rw [mC_25]; decide +kernel
theorem d25_78 : decode (mC 25) 78 = .ok (.iload_n 3, 1) := by rw [mC_25]; decide +kernel
theorem d25_79 : decode (mC 25) 79 = .ok (.bipush 10, 2) := by rw [mC_25]; decide +kernel
theorem d25_81 : decode (mC 25) 81 = .ok (.idiv, 1) := by rw [mC_25]; decide +kernel
theorem d25_82 : decode (mC 25) 82 = .ok (.bipush 10, 2) := by rw [mC_25]; decide +kernel
theorem d25_84 : decode (mC 25) 84 = .ok (.irem, 1) := by rw [mC_25]; decide +kernel
theorem d25_85 : decode (mC 25) 85 = .ok (.iadd, 1) := by rw [mC_25]; decide +kernel
theorem d25_86 : decode (mC 25) 86 = .ok (.invokevirtual 47, 3) := by rw [mC_25]; decide +kernel
theorem d25_89 : decode (mC 25) 89 = .ok (.aload_n 1, 1) := by rw [mC_25]; decide +kernel
theorem d25_90 : decode (mC 25) 90 = .ok (.iload_n 2, 1) := by rw [mC_25]; decide +kernel
theorem d25_91 : decode (mC 25) 91 = .ok (.iconst 2, 1) := by rw [mC_25]; decide +kernel
theorem d25_92 : decode (mC 25) 92 = .ok (.isub, 1) := by rw [mC_25]; decide +kernel
theorem d25_93 : decode (mC 25) 93 = .ok (.bipush 48, 2) := by rw [mC_25]; decide +kernel
theorem d25_95 : decode (mC 25) 95 = .ok (.iload_n 3, 1) := by rw [mC_25]; decide +kernel
theorem d25_96 : decode (mC 25) 96 = .ok (.bipush 10, 2) := by rw [mC_25]; decide +kernel
theorem d25_98 : decode (mC 25) 98 = .ok (.irem, 1) := by rw [mC_25]; decide +kernel
theorem d25_99 : decode (mC 25) 99 = .ok (.iadd, 1) := by rw [mC_25]; decide +kernel
theorem d25_100 : decode (mC 25) 100 = .ok (.invokevirtual 47, 3) := by rw [mC_25]; decide +kernel
theorem d25_103 : decode (mC 25) 103 = .ok (.aload_n 1, 1) := by rw [mC_25]; decide +kernel
theorem d25_104 : decode (mC 25) 104 = .ok (.invokevirtual 50, 3) := by rw [mC_25]; decide +kernel
theorem d25_107 : decode (mC 25) 107 = .ok (.return_, 1) := by rw [mC_25]; decide +kernel
theorem s25_0 {S : Nat × (Nat → Int32)} {L : List (Option Value)} {st : List Value} {n : Nat} {Q : xQ} {μ : xM} {a : Nat} (hl : L[1]? = some (some (.ref a))) (h : x_V S 25 1 L (.ref a :: st) μ n Q) : x_V S 25 0 L (st) μ n Q := x_aload_n d25_0 hl h
theorem s25_0N {S : Nat × (Nat → Int32)} {L : List (Option Value)} {st : List Value} {n : Nat} {Q : xQ} {μ : xM} (hl : L[1]? = some (some .null)) (h : x_V S 25 1 L (.null :: st) μ n Q) : x_V S 25 0 L st μ n Q := x_aload_nN d25_0 hl h
theorem s25_1 {S : Nat × (Nat → Int32)} {L : List (Option Value)} {st : List Value} {n : Nat} {Q : xQ} {μ : xM}  {a : Nat} (hs : x_sh a = (2, 2)) (hst : st.length ≤ 4) (h : x_V S 6 0 [some (.ref a)] [] μ n (x_bk S 25 1 L st Q)) : x_V S 25 1 L (.ref a :: st) μ n Q := x_callV (k' := 6) (as := []) (na := 0) d25_1 ⟨w379, by decide +kernel, by decide, by decide, by decide, by decide, by decide⟩ cf2 w376 w377 w378 (by decide +kernel) rfl hs (fun v hv => by
    cases hv) hst h
theorem s25_4 {S : Nat × (Nat → Int32)} {L : List (Option Value)} {st : List Value} {n : Nat} {Q : xQ} {μ : xM} {a : Nat} (hl : L[1]? = some (some (.ref a))) (h : x_V S 25 5 L (.ref a :: st) μ n Q) : x_V S 25 4 L (st) μ n Q := x_aload_n d25_4 hl h
theorem s25_4N {S : Nat × (Nat → Int32)} {L : List (Option Value)} {st : List Value} {n : Nat} {Q : xQ} {μ : xM} (hl : L[1]? = some (some .null)) (h : x_V S 25 5 L (.null :: st) μ n Q) : x_V S 25 4 L st μ n Q := x_aload_nN d25_4 hl h
theorem s25_5 {S : Nat × (Nat → Int32)} {L : List (Option Value)} {st : List Value} {n : Nat} {Q : xQ} {μ : xM}  (h : x_V S 25 7 L (.int (I 8) :: st) μ n Q) : x_V S 25 5 L (st) μ n Q := x_bipush (by decide +kernel) d25_5 h
theorem s25_7 {S : Nat × (Nat → Int32)} {L : List (Option Value)} {st : List Value} {n : Nat} {Q : xQ} {μ : xM}  (h : x_V S 25 9 L (.int (I 70) :: st) μ n Q) : x_V S 25 7 L (st) μ n Q := x_bipush (by decide +kernel) d25_7 h
theorem s25_9 {S : Nat × (Nat → Int32)} {L : List (Option Value)} {st : List Value} {n : Nat} {Q : xQ} {μ : xM} {x0 : Int32} {x1 : Int32} {a : Nat} (hs : x_sh a = (2, 2)) (hst : st.length ≤ 4) (h : x_V S 14 0 [some (.ref a), some (.int x0), some (.int x1)] [] μ n (x_bk S 25 9 L st Q)) : x_V S 25 9 L (.int x1 :: .int x0 :: .ref a :: st) μ n Q := x_callV (k' := 14) (as := [.int x0, .int x1]) (na := 2) d25_9 ⟨w383, by decide +kernel, by decide, by decide, by decide, by decide, by decide⟩ cf2 w380 w381 w382 (by decide +kernel) rfl hs (fun v hv => by
    simp only [List.mem_cons, List.not_mem_nil, or_false] at hv
    rcases hv with rfl | rfl <;> first | rfl | assumption) hst h
theorem s25_12 {S : Nat × (Nat → Int32)} {L : List (Option Value)} {st : List Value} {n : Nat} {Q : xQ} {μ : xM} {a : Nat} (hl : L[1]? = some (some (.ref a))) (h : x_V S 25 13 L (.ref a :: st) μ n Q) : x_V S 25 12 L (st) μ n Q := x_aload_n d25_12 hl h
theorem s25_12N {S : Nat × (Nat → Int32)} {L : List (Option Value)} {st : List Value} {n : Nat} {Q : xQ} {μ : xM} (hl : L[1]? = some (some .null)) (h : x_V S 25 13 L (.null :: st) μ n Q) : x_V S 25 12 L st μ n Q := x_aload_nN d25_12 hl h
theorem s25_13 {S : Nat × (Nat → Int32)} {L : List (Option Value)} {st : List Value} {n : Nat} {Q : xQ} {μ : xM}  (h : x_V S 25 15 L (.int (I 9) :: st) μ n Q) : x_V S 25 13 L (st) μ n Q := x_bipush (by decide +kernel) d25_13 h
theorem s25_15 {S : Nat × (Nat → Int32)} {L : List (Option Value)} {st : List Value} {n : Nat} {Q : xQ} {μ : xM}  (h : x_V S 25 17 L (.int (I 10) :: st) μ n Q) : x_V S 25 15 L (st) μ n Q := x_bipush (by decide +kernel) d25_15 h
theorem s25_17 {S : Nat × (Nat → Int32)} {L : List (Option Value)} {st : List Value} {n : Nat} {Q : xQ} {μ : xM} {x0 : Int32} {x1 : Int32} {a : Nat} (hs : x_sh a = (2, 2)) (hst : st.length ≤ 4) (h : x_V S 13 0 [some (.ref a), some (.int x0), some (.int x1)] [] μ n (x_bk S 25 17 L st Q)) : x_V S 25 17 L (.int x1 :: .int x0 :: .ref a :: st) μ n Q := x_callV (k' := 13) (as := [.int x0, .int x1]) (na := 2) d25_17 ⟨w396, by decide +kernel, by decide, by decide, by decide, by decide, by decide⟩ cf2 w393 w394 w395 (by decide +kernel) rfl hs (fun v hv => by
    simp only [List.mem_cons, List.not_mem_nil, or_false] at hv
    rcases hv with rfl | rfl <;> first | rfl | assumption) hst h
theorem s25_20 {S : Nat × (Nat → Int32)} {L : List (Option Value)} {st : List Value} {n : Nat} {Q : xQ} {μ : xM} {a : Nat} (hl : L[1]? = some (some (.ref a))) (h : x_V S 25 21 L (.ref a :: st) μ n Q) : x_V S 25 20 L (st) μ n Q := x_aload_n d25_20 hl h
theorem s25_20N {S : Nat × (Nat → Int32)} {L : List (Option Value)} {st : List Value} {n : Nat} {Q : xQ} {μ : xM} (hl : L[1]? = some (some .null)) (h : x_V S 25 21 L (.null :: st) μ n Q) : x_V S 25 20 L st μ n Q := x_aload_nN d25_20 hl h
theorem s25_21 {S : Nat × (Nat → Int32)} {L : List (Option Value)} {st : List Value} {n : Nat} {Q : xQ} {g : Nat → Nat → Int} {a : Nat} (hs : x_sh a = (2, 2)) (hp : x_pt a 1 = none) (ha : a ≠ x_out) (h : x_V S 25 24 L (.int (I (g a 1)) :: st) (x_vm g) n Q) : x_V S 25 21 L (.ref a :: st) (x_vm g) n Q := v_get (i := 1) cf2 d25_21 (by decide) w43 hs hp ha h
theorem s25_24 {S : Nat × (Nat → Int32)} {L : List (Option Value)} {st : List Value} {n : Nat} {Q : xQ} {μ : xM} {x : Int32} (h : x_V S 25 25 (L.set 2 (some (.int x))) (st) μ n Q) : x_V S 25 24 L (.int x :: st) μ n Q := x_istore_n d25_24 (by decide) h
theorem s25_25 {S : Nat × (Nat → Int32)} {L : List (Option Value)} {st : List Value} {n : Nat} {Q : xQ} {μ : xM} {a : Nat} (hl : L[1]? = some (some (.ref a))) (h : x_V S 25 26 L (.ref a :: st) μ n Q) : x_V S 25 25 L (st) μ n Q := x_aload_n d25_25 hl h
theorem s25_25N {S : Nat × (Nat → Int32)} {L : List (Option Value)} {st : List Value} {n : Nat} {Q : xQ} {μ : xM} (hl : L[1]? = some (some .null)) (h : x_V S 25 26 L (.null :: st) μ n Q) : x_V S 25 25 L st μ n Q := x_aload_nN d25_25 hl h
theorem s25_26 {S : Nat × (Nat → Int32)} {L : List (Option Value)} {st : List Value} {n : Nat} {Q : xQ} {μ : xM}  (h : x_V S 25 28 L (.int (I 35) :: st) μ n Q) : x_V S 25 26 L (st) μ n Q := x_bipush (by decide +kernel) d25_26 h
theorem s25_28 {S : Nat × (Nat → Int32)} {L : List (Option Value)} {st : List Value} {n : Nat} {Q : xQ} {μ : xM} {a : Nat} (hl : L[0]? = some (some (.ref a))) (h : x_V S 25 29 L (.ref a :: st) μ n Q) : x_V S 25 28 L (st) μ n Q := x_aload_n d25_28 hl h
theorem s25_28N {S : Nat × (Nat → Int32)} {L : List (Option Value)} {st : List Value} {n : Nat} {Q : xQ} {μ : xM} (hl : L[0]? = some (some .null)) (h : x_V S 25 29 L (.null :: st) μ n Q) : x_V S 25 28 L st μ n Q := x_aload_nN d25_28 hl h
theorem s25_29 {S : Nat × (Nat → Int32)} {L : List (Option Value)} {st : List Value} {n : Nat} {Q : xQ} {g : Nat → Nat → Int} {a : Nat} (hs : x_sh a = (3, 4)) (hp : x_pt a 0 = none) (ha : a ≠ x_out) (h : x_V S 25 32 L (.int (I (g a 0)) :: st) (x_vm g) n Q) : x_V S 25 29 L (.ref a :: st) (x_vm g) n Q := v_get (i := 0) cf3 d25_29 (by decide) w65 hs hp ha h
theorem s25_32 {S : Nat × (Nat → Int32)} {L : List (Option Value)} {st : List Value} {n : Nat} {Q : xQ} {μ : xM} {x0 : Int32} {x1 : Int32} {a : Nat} (hs : x_sh a = (2, 2)) (hst : st.length ≤ 4) (h : x_V S 14 0 [some (.ref a), some (.int x0), some (.int x1)] [] μ n (x_bk S 25 32 L st Q)) : x_V S 25 32 L (.int x1 :: .int x0 :: .ref a :: st) μ n Q := x_callV (k' := 14) (as := [.int x0, .int x1]) (na := 2) d25_32 ⟨w383, by decide +kernel, by decide, by decide, by decide, by decide, by decide⟩ cf2 w380 w381 w382 (by decide +kernel) rfl hs (fun v hv => by
    simp only [List.mem_cons, List.not_mem_nil, or_false] at hv
    rcases hv with rfl | rfl <;> first | rfl | assumption) hst h
theorem s25_35 {S : Nat × (Nat → Int32)} {L : List (Option Value)} {st : List Value} {n : Nat} {Q : xQ} {μ : xM} {a : Nat} (hl : L[1]? = some (some (.ref a))) (h : x_V S 25 36 L (.ref a :: st) μ n Q) : x_V S 25 35 L (st) μ n Q := x_aload_n d25_35 hl h
theorem s25_35N {S : Nat × (Nat → Int32)} {L : List (Option Value)} {st : List Value} {n : Nat} {Q : xQ} {μ : xM} (hl : L[1]? = some (some .null)) (h : x_V S 25 36 L (.null :: st) μ n Q) : x_V S 25 35 L st μ n Q := x_aload_nN d25_35 hl h
theorem s25_36 {S : Nat × (Nat → Int32)} {L : List (Option Value)} {st : List Value} {n : Nat} {Q : xQ} {μ : xM}  (h : x_V S 25 38 L (.int (I 34) :: st) μ n Q) : x_V S 25 36 L (st) μ n Q := x_bipush (by decide +kernel) d25_36 h
theorem s25_38 {S : Nat × (Nat → Int32)} {L : List (Option Value)} {st : List Value} {n : Nat} {Q : xQ} {μ : xM} {a : Nat} (hl : L[0]? = some (some (.ref a))) (h : x_V S 25 39 L (.ref a :: st) μ n Q) : x_V S 25 38 L (st) μ n Q := x_aload_n d25_38 hl h
theorem s25_38N {S : Nat × (Nat → Int32)} {L : List (Option Value)} {st : List Value} {n : Nat} {Q : xQ} {μ : xM} (hl : L[0]? = some (some .null)) (h : x_V S 25 39 L (.null :: st) μ n Q) : x_V S 25 38 L st μ n Q := x_aload_nN d25_38 hl h
theorem s25_39 {S : Nat × (Nat → Int32)} {L : List (Option Value)} {st : List Value} {n : Nat} {Q : xQ} {g : Nat → Nat → Int} {a : Nat} (hs : x_sh a = (3, 4)) (hp : x_pt a 1 = none) (ha : a ≠ x_out) (h : x_V S 25 42 L (.int (I (g a 1)) :: st) (x_vm g) n Q) : x_V S 25 39 L (.ref a :: st) (x_vm g) n Q := v_get (i := 1) cf3 d25_39 (by decide) w69 hs hp ha h
theorem s25_42 {S : Nat × (Nat → Int32)} {L : List (Option Value)} {st : List Value} {n : Nat} {Q : xQ} {μ : xM} {x0 : Int32} {x1 : Int32} {a : Nat} (hs : x_sh a = (2, 2)) (hst : st.length ≤ 4) (h : x_V S 13 0 [some (.ref a), some (.int x0), some (.int x1)] [] μ n (x_bk S 25 42 L st Q)) : x_V S 25 42 L (.int x1 :: .int x0 :: .ref a :: st) μ n Q := x_callV (k' := 13) (as := [.int x0, .int x1]) (na := 2) d25_42 ⟨w396, by decide +kernel, by decide, by decide, by decide, by decide, by decide⟩ cf2 w393 w394 w395 (by decide +kernel) rfl hs (fun v hv => by
    simp only [List.mem_cons, List.not_mem_nil, or_false] at hv
    rcases hv with rfl | rfl <;> first | rfl | assumption) hst h
theorem s25_45 {S : Nat × (Nat → Int32)} {L : List (Option Value)} {st : List Value} {n : Nat} {Q : xQ} {μ : xM} {a : Nat} (hl : L[0]? = some (some (.ref a))) (h : x_V S 25 46 L (.ref a :: st) μ n Q) : x_V S 25 45 L (st) μ n Q := x_aload_n d25_45 hl h
theorem s25_45N {S : Nat × (Nat → Int32)} {L : List (Option Value)} {st : List Value} {n : Nat} {Q : xQ} {μ : xM} (hl : L[0]? = some (some .null)) (h : x_V S 25 46 L (.null :: st) μ n Q) : x_V S 25 45 L st μ n Q := x_aload_nN d25_45 hl h
theorem s25_46 {S : Nat × (Nat → Int32)} {L : List (Option Value)} {st : List Value} {n : Nat} {Q : xQ} {g : Nat → Nat → Int} {a : Nat} (hs : x_sh a = (3, 4)) (hp : x_pt a 2 = none) (ha : a ≠ x_out) (h : x_V S 25 49 L (.int (I (g a 2)) :: st) (x_vm g) n Q) : x_V S 25 46 L (.ref a :: st) (x_vm g) n Q := v_get (i := 2) cf3 d25_46 (by decide) w71 hs hp ha h
theorem s25_49 {S : Nat × (Nat → Int32)} {L : List (Option Value)} {st : List Value} {n : Nat} {Q : xQ} {μ : xM} {x : Int} (hx : ib x) (kt : x = 0 → x_V S 25 60 L (st) μ n Q) (kf : x ≠ 0 → x_V S 25 52 L (st) μ n Q) : x_V S 25 49 L (.int (I x) :: st) μ n Q := v_if_eq d25_49 (by decide) hx kt kf
theorem s25_52 {S : Nat × (Nat → Int32)} {L : List (Option Value)} {st : List Value} {n : Nat} {Q : xQ} {μ : xM} {a : Nat} (hl : L[1]? = some (some (.ref a))) (h : x_V S 25 53 L (.ref a :: st) μ n Q) : x_V S 25 52 L (st) μ n Q := x_aload_n d25_52 hl h
theorem s25_52N {S : Nat × (Nat → Int32)} {L : List (Option Value)} {st : List Value} {n : Nat} {Q : xQ} {μ : xM} (hl : L[1]? = some (some .null)) (h : x_V S 25 53 L (.null :: st) μ n Q) : x_V S 25 52 L st μ n Q := x_aload_nN d25_52 hl h
theorem s25_53 {S : Nat × (Nat → Int32)} {L : List (Option Value)} {st : List Value} {n : Nat} {Q : xQ} {μ : xM}  (h : x_V S 25 55 L (.int (I 43) :: st) μ n Q) : x_V S 25 53 L (st) μ n Q := x_bipush (by decide +kernel) d25_53 h
theorem s25_55 {S : Nat × (Nat → Int32)} {L : List (Option Value)} {st : List Value} {n : Nat} {Q : xQ} {μ : xM}  (h : x_V S 25 57 L (.int (I 89) :: st) μ n Q) : x_V S 25 55 L (st) μ n Q := x_bipush (by decide +kernel) d25_55 h
theorem s25_57 {S : Nat × (Nat → Int32)} {L : List (Option Value)} {st : List Value} {n : Nat} {Q : xQ} {μ : xM} {x0 : Int32} {x1 : Int32} {a : Nat} (hs : x_sh a = (2, 2)) (hst : st.length ≤ 4) (h : x_V S 14 0 [some (.ref a), some (.int x0), some (.int x1)] [] μ n (x_bk S 25 57 L st Q)) : x_V S 25 57 L (.int x1 :: .int x0 :: .ref a :: st) μ n Q := x_callV (k' := 14) (as := [.int x0, .int x1]) (na := 2) d25_57 ⟨w383, by decide +kernel, by decide, by decide, by decide, by decide, by decide⟩ cf2 w380 w381 w382 (by decide +kernel) rfl hs (fun v hv => by
    simp only [List.mem_cons, List.not_mem_nil, or_false] at hv
    rcases hv with rfl | rfl <;> first | rfl | assumption) hst h
theorem s25_60 {S : Nat × (Nat → Int32)} {L : List (Option Value)} {st : List Value} {n : Nat} {Q : xQ} {μ : xM} {a : Nat} (hl : L[0]? = some (some (.ref a))) (h : x_V S 25 61 L (.ref a :: st) μ n Q) : x_V S 25 60 L (st) μ n Q := x_aload_n d25_60 hl h
theorem s25_60N {S : Nat × (Nat → Int32)} {L : List (Option Value)} {st : List Value} {n : Nat} {Q : xQ} {μ : xM} (hl : L[0]? = some (some .null)) (h : x_V S 25 61 L (.null :: st) μ n Q) : x_V S 25 60 L st μ n Q := x_aload_nN d25_60 hl h
theorem s25_61 {S : Nat × (Nat → Int32)} {L : List (Option Value)} {st : List Value} {n : Nat} {Q : xQ} {μ : xM} {a : Nat} (hl : L[1]? = some (some (.ref a))) (h : x_V S 25 62 L (.ref a :: st) μ n Q) : x_V S 25 61 L (st) μ n Q := x_aload_n d25_61 hl h
theorem s25_61N {S : Nat × (Nat → Int32)} {L : List (Option Value)} {st : List Value} {n : Nat} {Q : xQ} {μ : xM} (hl : L[1]? = some (some .null)) (h : x_V S 25 62 L (.null :: st) μ n Q) : x_V S 25 61 L st μ n Q := x_aload_nN d25_61 hl h
theorem s25_62 {S : Nat × (Nat → Int32)} {L : List (Option Value)} {st : List Value} {n : Nat} {Q : xQ} {μ : xM} {v0 : Value} (hc0 : v0.category = 1) {a : Nat} (hs : x_sh a = (3, 4)) (hst : st.length ≤ 4) (h : x_V S 26 0 [some (.ref a), some (v0), none, none, none] [] μ n (x_bk S 25 62 L st Q)) : x_V S 25 62 L (v0 :: .ref a :: st) μ n Q := x_callV (k' := 26) (as := [v0]) (na := 1) d25_62 ⟨w400, by decide +kernel, by decide, by decide, by decide, by decide, by decide⟩ cf3 w397 w399 wp5 (by decide +kernel) rfl hs (fun v hv => by
    simp only [List.mem_cons, List.not_mem_nil, or_false] at hv
    rcases hv with rfl <;> first | rfl | assumption) hst h
theorem s25_65 {S : Nat × (Nat → Int32)} {L : List (Option Value)} {st : List Value} {n : Nat} {Q : xQ} {μ : xM} {a : Nat} (hl : L[1]? = some (some (.ref a))) (h : x_V S 25 66 L (.ref a :: st) μ n Q) : x_V S 25 65 L (st) μ n Q := x_aload_n d25_65 hl h
theorem s25_65N {S : Nat × (Nat → Int32)} {L : List (Option Value)} {st : List Value} {n : Nat} {Q : xQ} {μ : xM} (hl : L[1]? = some (some .null)) (h : x_V S 25 66 L (.null :: st) μ n Q) : x_V S 25 65 L st μ n Q := x_aload_nN d25_65 hl h
theorem s25_66 {S : Nat × (Nat → Int32)} {L : List (Option Value)} {st : List Value} {n : Nat} {Q : xQ} {g : Nat → Nat → Int} {a : Nat} (hs : x_sh a = (2, 2)) (hp : x_pt a 1 = none) (ha : a ≠ x_out) (h : x_V S 25 69 L (.int (I (g a 1)) :: st) (x_vm g) n Q) : x_V S 25 66 L (.ref a :: st) (x_vm g) n Q := v_get (i := 1) cf2 d25_66 (by decide) w43 hs hp ha h
theorem s25_69 {S : Nat × (Nat → Int32)} {L : List (Option Value)} {st : List Value} {n : Nat} {Q : xQ} {μ : xM} {x : Int32} (hl : L[2]? = some (some (.int x))) (h : x_V S 25 70 L (.int x :: st) μ n Q) : x_V S 25 69 L (st) μ n Q := x_iload_n d25_69 hl h
theorem s25_70 {S : Nat × (Nat → Int32)} {L : List (Option Value)} {st : List Value} {n : Nat} {Q : xQ} {μ : xM} {x y : Int} (h : x_V S 25 71 L (.int (I (x - y)) :: st) μ n Q) : x_V S 25 70 L (.int (I y) :: .int (I x) :: st) μ n Q := v_isub d25_70 h
theorem s25_71 {S : Nat × (Nat → Int32)} {L : List (Option Value)} {st : List Value} {n : Nat} {Q : xQ} {μ : xM} {x : Int32} (h : x_V S 25 72 (L.set 3 (some (.int x))) (st) μ n Q) : x_V S 25 71 L (.int x :: st) μ n Q := x_istore_n d25_71 (by decide) h
theorem s25_72 {S : Nat × (Nat → Int32)} {L : List (Option Value)} {st : List Value} {n : Nat} {Q : xQ} {μ : xM} {a : Nat} (hl : L[1]? = some (some (.ref a))) (h : x_V S 25 73 L (.ref a :: st) μ n Q) : x_V S 25 72 L (st) μ n Q := x_aload_n d25_72 hl h
theorem s25_72N {S : Nat × (Nat → Int32)} {L : List (Option Value)} {st : List Value} {n : Nat} {Q : xQ} {μ : xM} (hl : L[1]? = some (some .null)) (h : x_V S 25 73 L (.null :: st) μ n Q) : x_V S 25 72 L st μ n Q := x_aload_nN d25_72 hl h
theorem s25_73 {S : Nat × (Nat → Int32)} {L : List (Option Value)} {st : List Value} {n : Nat} {Q : xQ} {μ : xM} {x : Int32} (hl : L[2]? = some (some (.int x))) (h : x_V S 25 74 L (.int x :: st) μ n Q) : x_V S 25 73 L (st) μ n Q := x_iload_n d25_73 hl h
theorem s25_74 {S : Nat × (Nat → Int32)} {L : List (Option Value)} {st : List Value} {n : Nat} {Q : xQ} {μ : xM}  (h : x_V S 25 75 L (.int (I 3) :: st) μ n Q) : x_V S 25 74 L (st) μ n Q := x_iconst (by decide +kernel) d25_74 h
theorem s25_75 {S : Nat × (Nat → Int32)} {L : List (Option Value)} {st : List Value} {n : Nat} {Q : xQ} {μ : xM} {x y : Int} (h : x_V S 25 76 L (.int (I (x - y)) :: st) μ n Q) : x_V S 25 75 L (.int (I y) :: .int (I x) :: st) μ n Q := v_isub d25_75 h
theorem s25_76 {S : Nat × (Nat → Int32)} {L : List (Option Value)} {st : List Value} {n : Nat} {Q : xQ} {μ : xM}  (h : x_V S 25 78 L (.int (I 48) :: st) μ n Q) : x_V S 25 76 L (st) μ n Q := x_bipush (by decide +kernel) d25_76 h
theorem s25_78 {S : Nat × (Nat → Int32)} {L : List (Option Value)} {st : List Value} {n : Nat} {Q : xQ} {μ : xM} {x : Int32} (hl : L[3]? = some (some (.int x))) (h : x_V S 25 79 L (.int x :: st) μ n Q) : x_V S 25 78 L (st) μ n Q := x_iload_n d25_78 hl h
theorem s25_79 {S : Nat × (Nat → Int32)} {L : List (Option Value)} {st : List Value} {n : Nat} {Q : xQ} {μ : xM}  (h : x_V S 25 81 L (.int (I 10) :: st) μ n Q) : x_V S 25 79 L (st) μ n Q := x_bipush (by decide +kernel) d25_79 h
theorem s25_81 {S : Nat × (Nat → Int32)} {L : List (Option Value)} {st : List Value} {n : Nat} {Q : xQ} {μ : xM} {x y : Int} (hx : ib x) (hy : ib y) (hx0 : 0 ≤ x) (hy0 : 0 < y) (h : x_V S 25 82 L (.int (I (x / y)) :: st) μ n Q) : x_V S 25 81 L (.int (I y) :: .int (I x) :: st) μ n Q := v_idiv d25_81 hx hy hx0 hy0 h
theorem s25_82 {S : Nat × (Nat → Int32)} {L : List (Option Value)} {st : List Value} {n : Nat} {Q : xQ} {μ : xM}  (h : x_V S 25 84 L (.int (I 10) :: st) μ n Q) : x_V S 25 82 L (st) μ n Q := x_bipush (by decide +kernel) d25_82 h
theorem s25_84 {S : Nat × (Nat → Int32)} {L : List (Option Value)} {st : List Value} {n : Nat} {Q : xQ} {μ : xM} {x y : Int} (hx : ib x) (hy : ib y) (hx0 : 0 ≤ x) (hy0 : 0 < y) (h : x_V S 25 85 L (.int (I (x % y)) :: st) μ n Q) : x_V S 25 84 L (.int (I y) :: .int (I x) :: st) μ n Q := v_irem d25_84 hx hy hx0 hy0 h
theorem s25_85 {S : Nat × (Nat → Int32)} {L : List (Option Value)} {st : List Value} {n : Nat} {Q : xQ} {μ : xM} {x y : Int} (h : x_V S 25 86 L (.int (I (x + y)) :: st) μ n Q) : x_V S 25 85 L (.int (I y) :: .int (I x) :: st) μ n Q := v_iadd d25_85 h
theorem s25_86 {S : Nat × (Nat → Int32)} {L : List (Option Value)} {st : List Value} {n : Nat} {Q : xQ} {μ : xM} {x0 : Int32} {x1 : Int32} {a : Nat} (hs : x_sh a = (2, 2)) (hst : st.length ≤ 4) (h : x_V S 10 0 [some (.ref a), some (.int x0), some (.int x1)] [] μ n (x_bk S 25 86 L st Q)) : x_V S 25 86 L (.int x1 :: .int x0 :: .ref a :: st) μ n Q := x_callV (k' := 10) (as := [.int x0, .int x1]) (na := 2) d25_86 ⟨w414, by decide +kernel, by decide, by decide, by decide, by decide, by decide⟩ cf2 w411 w412 w413 (by decide +kernel) rfl hs (fun v hv => by
    simp only [List.mem_cons, List.not_mem_nil, or_false] at hv
    rcases hv with rfl | rfl <;> first | rfl | assumption) hst h
theorem s25_89 {S : Nat × (Nat → Int32)} {L : List (Option Value)} {st : List Value} {n : Nat} {Q : xQ} {μ : xM} {a : Nat} (hl : L[1]? = some (some (.ref a))) (h : x_V S 25 90 L (.ref a :: st) μ n Q) : x_V S 25 89 L (st) μ n Q := x_aload_n d25_89 hl h
theorem s25_89N {S : Nat × (Nat → Int32)} {L : List (Option Value)} {st : List Value} {n : Nat} {Q : xQ} {μ : xM} (hl : L[1]? = some (some .null)) (h : x_V S 25 90 L (.null :: st) μ n Q) : x_V S 25 89 L st μ n Q := x_aload_nN d25_89 hl h
theorem s25_90 {S : Nat × (Nat → Int32)} {L : List (Option Value)} {st : List Value} {n : Nat} {Q : xQ} {μ : xM} {x : Int32} (hl : L[2]? = some (some (.int x))) (h : x_V S 25 91 L (.int x :: st) μ n Q) : x_V S 25 90 L (st) μ n Q := x_iload_n d25_90 hl h
theorem s25_91 {S : Nat × (Nat → Int32)} {L : List (Option Value)} {st : List Value} {n : Nat} {Q : xQ} {μ : xM}  (h : x_V S 25 92 L (.int (I 2) :: st) μ n Q) : x_V S 25 91 L (st) μ n Q := x_iconst (by decide +kernel) d25_91 h
theorem s25_92 {S : Nat × (Nat → Int32)} {L : List (Option Value)} {st : List Value} {n : Nat} {Q : xQ} {μ : xM} {x y : Int} (h : x_V S 25 93 L (.int (I (x - y)) :: st) μ n Q) : x_V S 25 92 L (.int (I y) :: .int (I x) :: st) μ n Q := v_isub d25_92 h
theorem s25_93 {S : Nat × (Nat → Int32)} {L : List (Option Value)} {st : List Value} {n : Nat} {Q : xQ} {μ : xM}  (h : x_V S 25 95 L (.int (I 48) :: st) μ n Q) : x_V S 25 93 L (st) μ n Q := x_bipush (by decide +kernel) d25_93 h
theorem s25_95 {S : Nat × (Nat → Int32)} {L : List (Option Value)} {st : List Value} {n : Nat} {Q : xQ} {μ : xM} {x : Int32} (hl : L[3]? = some (some (.int x))) (h : x_V S 25 96 L (.int x :: st) μ n Q) : x_V S 25 95 L (st) μ n Q := x_iload_n d25_95 hl h
theorem s25_96 {S : Nat × (Nat → Int32)} {L : List (Option Value)} {st : List Value} {n : Nat} {Q : xQ} {μ : xM}  (h : x_V S 25 98 L (.int (I 10) :: st) μ n Q) : x_V S 25 96 L (st) μ n Q := x_bipush (by decide +kernel) d25_96 h
theorem s25_98 {S : Nat × (Nat → Int32)} {L : List (Option Value)} {st : List Value} {n : Nat} {Q : xQ} {μ : xM} {x y : Int} (hx : ib x) (hy : ib y) (hx0 : 0 ≤ x) (hy0 : 0 < y) (h : x_V S 25 99 L (.int (I (x % y)) :: st) μ n Q) : x_V S 25 98 L (.int (I y) :: .int (I x) :: st) μ n Q := v_irem d25_98 hx hy hx0 hy0 h
theorem s25_99 {S : Nat × (Nat → Int32)} {L : List (Option Value)} {st : List Value} {n : Nat} {Q : xQ} {μ : xM} {x y : Int} (h : x_V S 25 100 L (.int (I (x + y)) :: st) μ n Q) : x_V S 25 99 L (.int (I y) :: .int (I x) :: st) μ n Q := v_iadd d25_99 h
theorem s25_100 {S : Nat × (Nat → Int32)} {L : List (Option Value)} {st : List Value} {n : Nat} {Q : xQ} {μ : xM} {x0 : Int32} {x1 : Int32} {a : Nat} (hs : x_sh a = (2, 2)) (hst : st.length ≤ 4) (h : x_V S 10 0 [some (.ref a), some (.int x0), some (.int x1)] [] μ n (x_bk S 25 100 L st Q)) : x_V S 25 100 L (.int x1 :: .int x0 :: .ref a :: st) μ n Q := x_callV (k' := 10) (as := [.int x0, .int x1]) (na := 2) d25_100 ⟨w414, by decide +kernel, by decide, by decide, by decide, by decide, by decide⟩ cf2 w411 w412 w413 (by decide +kernel) rfl hs (fun v hv => by
    simp only [List.mem_cons, List.not_mem_nil, or_false] at hv
    rcases hv with rfl | rfl <;> first | rfl | assumption) hst h
theorem s25_103 {S : Nat × (Nat → Int32)} {L : List (Option Value)} {st : List Value} {n : Nat} {Q : xQ} {μ : xM} {a : Nat} (hl : L[1]? = some (some (.ref a))) (h : x_V S 25 104 L (.ref a :: st) μ n Q) : x_V S 25 103 L (st) μ n Q := x_aload_n d25_103 hl h
theorem s25_103N {S : Nat × (Nat → Int32)} {L : List (Option Value)} {st : List Value} {n : Nat} {Q : xQ} {μ : xM} (hl : L[1]? = some (some .null)) (h : x_V S 25 104 L (.null :: st) μ n Q) : x_V S 25 103 L st μ n Q := x_aload_nN d25_103 hl h
theorem s25_104 {S : Nat × (Nat → Int32)} {L : List (Option Value)} {st : List Value} {n : Nat} {Q : xQ} {μ : xM}  {a : Nat} (hs : x_sh a = (2, 2)) (hst : st.length ≤ 4) (h : x_V S 15 0 [some (.ref a), none] [] μ n (x_bk S 25 104 L st Q)) : x_V S 25 104 L (.ref a :: st) μ n Q := x_callV (k' := 15) (as := []) (na := 0) d25_104 ⟨w422, by decide +kernel, by decide, by decide, by decide, by decide, by decide⟩ cf2 w419 w420 w421 (by decide +kernel) rfl hs (fun v hv => by
    cases hv) hst h
theorem s25_107 {S : Nat × (Nat → Int32)} {L : List (Option Value)} {st : List Value} {n : Nat} {Q : xQ} {μ : xM}  (h : Q (.inl none) μ n) : x_V S 25 107 L ([]) μ n Q := x_return d25_107 rfl h
theorem mC_26 : mC 26 = prog_5_method_6_code := rfl
theorem d26_0 : decode (mC 26) 0 = .ok (.aload_n 0, 1) := by rw [mC_26]; decide +kernel
theorem d26_1 : decode (mC 26) 1 = .ok (.getfield 17, 3) := by rw [mC_26]; decide +kernel
theorem d26_4 : decode (mC 26) 4 = .ok (.invokestatic 53, 3) := by rw [mC_26]; decide +kernel
theorem d26_7 : decode (mC 26) 7 = .ok (.istore_n 2, 1) := by rw [mC_26]; decide +kernel
theorem d26_8 : decode (mC 26) 8 = .ok (.iconst 0, 1) := by rw [mC_26]; decide +kernel
theorem d26_9 : decode (mC 26) 9 = .ok (.istore_n 3, 1) := by rw [mC_26]; decide +kernel
theorem d26_10 : decode (mC 26) 10 = .ok (.iload_n 3, 1) := by rw [mC_26]; decide +kernel
theorem d26_11 : decode (mC 26) 11 = .ok (.iload_n 2, 1) := by rw [mC_26]; decide +kernel
theorem d26_12 : decode (mC 26) 12 = .ok (.if_icmp .ge 102, 3) := by rw [mC_26]; decide +kernel
theorem d26_15 : decode (mC 26) 15 = .ok (.iload_n 3, 1) := by rw [mC_26]; decide +kernel
theorem d26_16 : decode (mC 26) 16 = .ok (.aload_n 0, 1) := by rw [mC_26]; decide +kernel
theorem d26_17 : decode (mC 26) 17 = .ok (.getfield 11, 3) := by rw [mC_26]; decide +kernel
theorem d26_20 : decode (mC 26) 20 = .ok (.arraylength, 1) := by rw [mC_26]; decide +kernel
theorem d26_21 : decode (mC 26) 21 = .ok (.if_icmp .ge 93, 3) := by rw [mC_26]; decide +kernel
theorem d26_24 : decode (mC 26) 24 = .ok (.aload_n 0, 1) := by rw [mC_26]; decide +kernel
theorem d26_25 : decode (mC 26) 25 = .ok (.getfield 17, 3) := by rw [mC_26]; decide +kernel
theorem d26_28 : decode (mC 26) 28 = .ok (.iload_n 3, 1) := by rw [mC_26]; decide +kernel
theorem d26_29 : decode (mC 26) 29 = .ok (.invokestatic 57, 3) := by rw [mC_26]; decide +kernel
theorem d26_32 : decode (mC 26) 32 = .ok (.istore 4, 2) := by rw [mC_26]; decide +kernel
theorem d26_34 : decode (mC 26) 34 = .ok (.iload 4, 2) := by rw [mC_26]; decide +kernel
theorem d26_36 : decode (mC 26) 36 = .ok (.bipush 123, 2) := by rw [mC_26]; decide +kernel
theorem d26_38 : decode (mC 26) 38 = .ok (.if_icmp .ne 26, 3) := by rw [mC_26]; decide +kernel
theorem d26_41 : decode (mC 26) 41 = .ok (.aload_n 1, 1) := by rw [mC_26]; decide +kernel
theorem d26_42 : decode (mC 26) 42 = .ok (.iload 4, 2) := by rw [mC_26]; decide +kernel
theorem d26_44 : decode (mC 26) 44 = .ok (.aload_n 0, 1) := by rw [mC_26]; decide +kernel
theorem d26_45 : decode (mC 26) 45 = .ok (.invokevirtual 61, 3) := by rw [mC_26]; decide +kernel
theorem d26_48 : decode (mC 26) 48 = .ok (.ifCond .eq 8, 3) := by rw [mC_26]; decide +kernel
theorem d26_51 : decode (mC 26) 51 = .ok (.bipush 89, 2) := by rw [mC_26]; decide +kernel
theorem d26_53 : decode (mC 26) 53 = .ok (.goto 5, 3) := by rw [mC_26]; decide +kernel
theorem d26_56 : decode (mC 26) 56 = .ok (.bipush 78, 2) := by rw [mC_26]; decide +kernel
theorem d26_58 : decode (mC 26) 58 = .ok (.invokevirtual 33, 3) := by rw [mC_26]; decide +kernel
theorem d26_61 : decode (mC 26) 61 = .ok (.goto 47, 3) := by rw [mC_26]; decide +kernel
theorem d26_64 : decode (mC 26) 64 = .ok (.iload 4, 2) := by rw [mC_26]; decide +kernel
theorem d26_66 : decode (mC 26) 66 = .ok (.bipush 39, 2) := by rw [mC_26]; decide +kernel
theorem d26_68 : decode (mC 26) 68 = .ok (.if_icmp .ne 18, 3) := by rw [mC_26]; decide +kernel
theorem d26_71 : decode (mC 26) 71 = .ok (.aload_n 1, 1) := by rw [mC_26]; decide +kernel
theorem d26_72 : decode (mC 26) 72 = .ok (.iload 4, 2) := by rw [mC_26]; decide +kernel
theorem d26_74 : decode (mC 26) 74 = .ok (.aload_n 0, 1) := by rw [mC_26]; decide +kernel
theorem d26_75 : decode (mC 26) 75 = .ok (.getfield 11, 3) := by rw [mC_26]; decide +kernel
theorem d26_78 : decode (mC 26) 78 = .ok (.iload_n 3, 1) := by rw [mC_26]; decide +kernel
theorem d26_79 : decode (mC 26) 79 = .ok (.iaload, 1) := by rw [mC_26]; decide +kernel
theorem d26_80 : decode (mC 26) 80 = .ok (.invokevirtual 33, 3) := by rw [mC_26]; decide +kernel
theorem d26_83 : decode (mC 26) 83 = .ok (.goto 25, 3) := by rw [mC_26]; decide +kernel
theorem d26_86 : decode (mC 26) 86 = .ok (.aload_n 0, 1) := by rw [mC_26]; decide +kernel
theorem d26_87 : decode (mC 26) 87 = .ok (.getfield 11, 3) := by rw [mC_26]; decide +kernel
theorem d26_90 : decode (mC 26) 90 = .ok (.iload_n 3, 1) := by rw [mC_26]; decide +kernel
theorem d26_91 : decode (mC 26) 91 = .ok (.iaload, 1) := by rw [mC_26]; decide +kernel
theorem d26_92 : decode (mC 26) 92 = .ok (.iconst (-1), 1) := by rw [mC_26]; decide +kernel
theorem d26_93 : decode (mC 26) 93 = .ok (.if_icmp .eq 15, 3) := by rw [mC_26]; decide +kernel
theorem d26_96 : decode (mC 26) 96 = .ok (.aload_n 1, 1) := by rw [mC_26]; decide +kernel
theorem d26_97 : decode (mC 26) 97 = .ok (.iload 4, 2) := by rw [mC_26]; decide +kernel
theorem d26_99 : decode (mC 26) 99 = .ok (.aload_n 0, 1) := by rw [mC_26]; decide +kernel
theorem d26_100 : decode (mC 26) 100 = .ok (.getfield 11, 3) := by rw [mC_26]; decide +kernel
theorem d26_103 : decode (mC 26) 103 = .ok (.iload_n 3, 1) := by rw [mC_26]; decide +kernel
theorem d26_104 : decode (mC 26) 104 = .ok (.iaload, 1) := by rw [mC_26]; decide +kernel
theorem d26_105 : decode (mC 26) 105 = .ok (.invokevirtual 37, 3) := by rw [mC_26]; decide +kernel
theorem d26_108 : decode (mC 26) 108 = .ok (.iinc 3 1, 3) := by rw [mC_26]; decide +kernel
theorem d26_111 : decode (mC 26) 111 = .ok (.goto (-101), 3) := by rw [mC_26]; decide +kernel
theorem d26_114 : decode (mC 26) 114 = .ok (.return_, 1) := by rw [mC_26]; decide +kernel
theorem s26_0 {S : Nat × (Nat → Int32)} {L : List (Option Value)} {st : List Value} {n : Nat} {Q : xQ} {μ : xM} {a : Nat} (hl : L[0]? = some (some (.ref a))) (h : x_V S 26 1 L (.ref a :: st) μ n Q) : x_V S 26 0 L (st) μ n Q := x_aload_n d26_0 hl h
theorem s26_0N {S : Nat × (Nat → Int32)} {L : List (Option Value)} {st : List Value} {n : Nat} {Q : xQ} {μ : xM} (hl : L[0]? = some (some .null)) (h : x_V S 26 1 L (.null :: st) μ n Q) : x_V S 26 0 L st μ n Q := x_aload_nN d26_0 hl h
theorem s26_1 {S : Nat × (Nat → Int32)} {L : List (Option Value)} {st : List Value} {n : Nat} {Q : xQ} {g : Nat → Nat → Int} {a : Nat} (hs : x_sh a = (3, 4)) (hp : x_pt a 0 = none) (ha : a ≠ x_out) (h : x_V S 26 4 L (.int (I (g a 0)) :: st) (x_vm g) n Q) : x_V S 26 1 L (.ref a :: st) (x_vm g) n Q := v_get (i := 0) cf3 d26_1 (by decide) w65 hs hp ha h
theorem s26_4 {S : Nat × (Nat → Int32)} {L : List (Option Value)} {st : List Value} {n : Nat} {Q : xQ} {μ : xM} {x0 : Int32} (hst : st.length ≤ 4) (h : x_V S 2 0 [some (.int x0), none] [] μ n (x_bk S 26 4 L st Q)) : x_V S 26 4 L (.int x0 :: st) μ n Q := x_callS (k' := 2) (as := [.int x0]) (na := 1) d26_4 ⟨w403, by decide +kernel, by decide, by decide, by decide, by decide, by decide⟩ w401 w402 w11 (by decide +kernel) rfl (fun v hv => by
    simp only [List.mem_cons, List.not_mem_nil, or_false] at hv
    rcases hv with rfl <;> first | rfl | assumption) hst h
theorem s26_7 {S : Nat × (Nat → Int32)} {L : List (Option Value)} {st : List Value} {n : Nat} {Q : xQ} {μ : xM} {x : Int32} (h : x_V S 26 8 (L.set 2 (some (.int x))) (st) μ n Q) : x_V S 26 7 L (.int x :: st) μ n Q := x_istore_n d26_7 (by decide) h
theorem s26_8 {S : Nat × (Nat → Int32)} {L : List (Option Value)} {st : List Value} {n : Nat} {Q : xQ} {μ : xM}  (h : x_V S 26 9 L (.int (I 0) :: st) μ n Q) : x_V S 26 8 L (st) μ n Q := x_iconst (by decide +kernel) d26_8 h
theorem s26_9 {S : Nat × (Nat → Int32)} {L : List (Option Value)} {st : List Value} {n : Nat} {Q : xQ} {μ : xM} {x : Int32} (h : x_V S 26 10 (L.set 3 (some (.int x))) (st) μ n Q) : x_V S 26 9 L (.int x :: st) μ n Q := x_istore_n d26_9 (by decide) h
theorem s26_10 {S : Nat × (Nat → Int32)} {L : List (Option Value)} {st : List Value} {n : Nat} {Q : xQ} {μ : xM} {x : Int32} (hl : L[3]? = some (some (.int x))) (h : x_V S 26 11 L (.int x :: st) μ n Q) : x_V S 26 10 L (st) μ n Q := x_iload_n d26_10 hl h
theorem s26_11 {S : Nat × (Nat → Int32)} {L : List (Option Value)} {st : List Value} {n : Nat} {Q : xQ} {μ : xM} {x : Int32} (hl : L[2]? = some (some (.int x))) (h : x_V S 26 12 L (.int x :: st) μ n Q) : x_V S 26 11 L (st) μ n Q := x_iload_n d26_11 hl h
theorem s26_12 {S : Nat × (Nat → Int32)} {L : List (Option Value)} {st : List Value} {n : Nat} {Q : xQ} {μ : xM} {x y : Int} (hx : ib x) (hy : ib y) (kt : y ≤ x → x_V S 26 114 L (st) μ n Q) (kf : x < y → x_V S 26 15 L (st) μ n Q) : x_V S 26 12 L (.int (I y) :: .int (I x) :: st) μ n Q := v_icmp_ge d26_12 (by decide) hx hy kt kf
theorem s26_15 {S : Nat × (Nat → Int32)} {L : List (Option Value)} {st : List Value} {n : Nat} {Q : xQ} {μ : xM} {x : Int32} (hl : L[3]? = some (some (.int x))) (h : x_V S 26 16 L (.int x :: st) μ n Q) : x_V S 26 15 L (st) μ n Q := x_iload_n d26_15 hl h
theorem s26_16 {S : Nat × (Nat → Int32)} {L : List (Option Value)} {st : List Value} {n : Nat} {Q : xQ} {μ : xM} {a : Nat} (hl : L[0]? = some (some (.ref a))) (h : x_V S 26 17 L (.ref a :: st) μ n Q) : x_V S 26 16 L (st) μ n Q := x_aload_n d26_16 hl h
theorem s26_16N {S : Nat × (Nat → Int32)} {L : List (Option Value)} {st : List Value} {n : Nat} {Q : xQ} {μ : xM} (hl : L[0]? = some (some .null)) (h : x_V S 26 17 L (.null :: st) μ n Q) : x_V S 26 16 L st μ n Q := x_aload_nN d26_16 hl h
theorem s26_17 {S : Nat × (Nat → Int32)} {L : List (Option Value)} {st : List Value} {n : Nat} {Q : xQ} {g : Nat → Nat → Int} {a : Nat} {v : Value} (hs : x_sh a = (3, 4)) (hp : x_pt a 3 = some v) (h : x_V S 26 20 L (v :: st) (x_vm g) n Q) : x_V S 26 17 L (.ref a :: st) (x_vm g) n Q := v_getp (i := 3) cf3 d26_17 (by decide) w73 hs hp h
theorem s26_21 {S : Nat × (Nat → Int32)} {L : List (Option Value)} {st : List Value} {n : Nat} {Q : xQ} {μ : xM} {x y : Int} (hx : ib x) (hy : ib y) (kt : y ≤ x → x_V S 26 114 L (st) μ n Q) (kf : x < y → x_V S 26 24 L (st) μ n Q) : x_V S 26 21 L (.int (I y) :: .int (I x) :: st) μ n Q := v_icmp_ge d26_21 (by decide) hx hy kt kf
theorem s26_24 {S : Nat × (Nat → Int32)} {L : List (Option Value)} {st : List Value} {n : Nat} {Q : xQ} {μ : xM} {a : Nat} (hl : L[0]? = some (some (.ref a))) (h : x_V S 26 25 L (.ref a :: st) μ n Q) : x_V S 26 24 L (st) μ n Q := x_aload_n d26_24 hl h
theorem s26_24N {S : Nat × (Nat → Int32)} {L : List (Option Value)} {st : List Value} {n : Nat} {Q : xQ} {μ : xM} (hl : L[0]? = some (some .null)) (h : x_V S 26 25 L (.null :: st) μ n Q) : x_V S 26 24 L st μ n Q := x_aload_nN d26_24 hl h
theorem s26_25 {S : Nat × (Nat → Int32)} {L : List (Option Value)} {st : List Value} {n : Nat} {Q : xQ} {g : Nat → Nat → Int} {a : Nat} (hs : x_sh a = (3, 4)) (hp : x_pt a 0 = none) (ha : a ≠ x_out) (h : x_V S 26 28 L (.int (I (g a 0)) :: st) (x_vm g) n Q) : x_V S 26 25 L (.ref a :: st) (x_vm g) n Q := v_get (i := 0) cf3 d26_25 (by decide) w65 hs hp ha h
theorem s26_28 {S : Nat × (Nat → Int32)} {L : List (Option Value)} {st : List Value} {n : Nat} {Q : xQ} {μ : xM} {x : Int32} (hl : L[3]? = some (some (.int x))) (h : x_V S 26 29 L (.int x :: st) μ n Q) : x_V S 26 28 L (st) μ n Q := x_iload_n d26_28 hl h
theorem s26_29 {S : Nat × (Nat → Int32)} {L : List (Option Value)} {st : List Value} {n : Nat} {Q : xQ} {μ : xM} {x0 : Int32} {x1 : Int32} (hst : st.length ≤ 4) (h : x_V S 3 0 [some (.int x0), some (.int x1), none] [] μ n (x_bk S 26 29 L st Q)) : x_V S 26 29 L (.int x1 :: .int x0 :: st) μ n Q := x_callS (k' := 3) (as := [.int x0, .int x1]) (na := 2) d26_29 ⟨w406, by decide +kernel, by decide, by decide, by decide, by decide, by decide⟩ w404 w405 w11 (by decide +kernel) rfl (fun v hv => by
    simp only [List.mem_cons, List.not_mem_nil, or_false] at hv
    rcases hv with rfl | rfl <;> first | rfl | assumption) hst h
theorem s26_32 {S : Nat × (Nat → Int32)} {L : List (Option Value)} {st : List Value} {n : Nat} {Q : xQ} {μ : xM} {x : Int32} (h : x_V S 26 34 (L.set 4 (some (.int x))) (st) μ n Q) : x_V S 26 32 L (.int x :: st) μ n Q := x_istore d26_32 (by decide) h
theorem s26_34 {S : Nat × (Nat → Int32)} {L : List (Option Value)} {st : List Value} {n : Nat} {Q : xQ} {μ : xM} {x : Int32} (hl : L[4]? = some (some (.int x))) (h : x_V S 26 36 L (.int x :: st) μ n Q) : x_V S 26 34 L (st) μ n Q := x_iload d26_34 hl h
theorem s26_36 {S : Nat × (Nat → Int32)} {L : List (Option Value)} {st : List Value} {n : Nat} {Q : xQ} {μ : xM}  (h : x_V S 26 38 L (.int (I 123) :: st) μ n Q) : x_V S 26 36 L (st) μ n Q := x_bipush (by decide +kernel) d26_36 h
theorem s26_38 {S : Nat × (Nat → Int32)} {L : List (Option Value)} {st : List Value} {n : Nat} {Q : xQ} {μ : xM} {x y : Int} (hx : ib x) (hy : ib y) (kt : x ≠ y → x_V S 26 64 L (st) μ n Q) (kf : x = y → x_V S 26 41 L (st) μ n Q) : x_V S 26 38 L (.int (I y) :: .int (I x) :: st) μ n Q := v_icmp_ne d26_38 (by decide) hx hy kt kf
theorem s26_41 {S : Nat × (Nat → Int32)} {L : List (Option Value)} {st : List Value} {n : Nat} {Q : xQ} {μ : xM} {a : Nat} (hl : L[1]? = some (some (.ref a))) (h : x_V S 26 42 L (.ref a :: st) μ n Q) : x_V S 26 41 L (st) μ n Q := x_aload_n d26_41 hl h
theorem s26_41N {S : Nat × (Nat → Int32)} {L : List (Option Value)} {st : List Value} {n : Nat} {Q : xQ} {μ : xM} (hl : L[1]? = some (some .null)) (h : x_V S 26 42 L (.null :: st) μ n Q) : x_V S 26 41 L st μ n Q := x_aload_nN d26_41 hl h
theorem s26_42 {S : Nat × (Nat → Int32)} {L : List (Option Value)} {st : List Value} {n : Nat} {Q : xQ} {μ : xM} {x : Int32} (hl : L[4]? = some (some (.int x))) (h : x_V S 26 44 L (.int x :: st) μ n Q) : x_V S 26 42 L (st) μ n Q := x_iload d26_42 hl h
theorem s26_44 {S : Nat × (Nat → Int32)} {L : List (Option Value)} {st : List Value} {n : Nat} {Q : xQ} {μ : xM} {a : Nat} (hl : L[0]? = some (some (.ref a))) (h : x_V S 26 45 L (.ref a :: st) μ n Q) : x_V S 26 44 L (st) μ n Q := x_aload_n d26_44 hl h
theorem s26_44N {S : Nat × (Nat → Int32)} {L : List (Option Value)} {st : List Value} {n : Nat} {Q : xQ} {μ : xM} (hl : L[0]? = some (some .null)) (h : x_V S 26 45 L (.null :: st) μ n Q) : x_V S 26 44 L st μ n Q := x_aload_nN d26_44 hl h
theorem s26_45 {S : Nat × (Nat → Int32)} {L : List (Option Value)} {st : List Value} {n : Nat} {Q : xQ} {μ : xM}  {a : Nat} (hs : x_sh a = (3, 4)) (hst : st.length ≤ 4) (h : x_V S 24 0 [some (.ref a)] [] μ n (x_bk S 26 45 L st Q)) : x_V S 26 45 L (.ref a :: st) μ n Q := x_callV (k' := 24) (as := []) (na := 0) d26_45 ⟨w410, by decide +kernel, by decide, by decide, by decide, by decide, by decide⟩ cf3 w407 w408 w409 (by decide +kernel) rfl hs (fun v hv => by
    cases hv) hst h
theorem s26_48 {S : Nat × (Nat → Int32)} {L : List (Option Value)} {st : List Value} {n : Nat} {Q : xQ} {μ : xM} {x : Int} (hx : ib x) (kt : x = 0 → x_V S 26 56 L (st) μ n Q) (kf : x ≠ 0 → x_V S 26 51 L (st) μ n Q) : x_V S 26 48 L (.int (I x) :: st) μ n Q := v_if_eq d26_48 (by decide) hx kt kf
theorem s26_51 {S : Nat × (Nat → Int32)} {L : List (Option Value)} {st : List Value} {n : Nat} {Q : xQ} {μ : xM}  (h : x_V S 26 53 L (.int (I 89) :: st) μ n Q) : x_V S 26 51 L (st) μ n Q := x_bipush (by decide +kernel) d26_51 h
theorem s26_53 {S : Nat × (Nat → Int32)} {L : List (Option Value)} {st : List Value} {n : Nat} {Q : xQ} {μ : xM}  (h : x_V S 26 58 L (st) μ n Q) : x_V S 26 53 L (st) μ n Q := x_goto (tgt := 58) (by decide) d26_53 h
theorem s26_56 {S : Nat × (Nat → Int32)} {L : List (Option Value)} {st : List Value} {n : Nat} {Q : xQ} {μ : xM}  (h : x_V S 26 58 L (.int (I 78) :: st) μ n Q) : x_V S 26 56 L (st) μ n Q := x_bipush (by decide +kernel) d26_56 h
theorem s26_58 {S : Nat × (Nat → Int32)} {L : List (Option Value)} {st : List Value} {n : Nat} {Q : xQ} {μ : xM} {x0 : Int32} {x1 : Int32} {a : Nat} (hs : x_sh a = (2, 2)) (hst : st.length ≤ 4) (h : x_V S 14 0 [some (.ref a), some (.int x0), some (.int x1)] [] μ n (x_bk S 26 58 L st Q)) : x_V S 26 58 L (.int x1 :: .int x0 :: .ref a :: st) μ n Q := x_callV (k' := 14) (as := [.int x0, .int x1]) (na := 2) d26_58 ⟨w383, by decide +kernel, by decide, by decide, by decide, by decide, by decide⟩ cf2 w380 w381 w382 (by decide +kernel) rfl hs (fun v hv => by
    simp only [List.mem_cons, List.not_mem_nil, or_false] at hv
    rcases hv with rfl | rfl <;> first | rfl | assumption) hst h
theorem s26_61 {S : Nat × (Nat → Int32)} {L : List (Option Value)} {st : List Value} {n : Nat} {Q : xQ} {μ : xM}  (h : x_V S 26 108 L (st) μ n Q) : x_V S 26 61 L (st) μ n Q := x_goto (tgt := 108) (by decide) d26_61 h
theorem s26_64 {S : Nat × (Nat → Int32)} {L : List (Option Value)} {st : List Value} {n : Nat} {Q : xQ} {μ : xM} {x : Int32} (hl : L[4]? = some (some (.int x))) (h : x_V S 26 66 L (.int x :: st) μ n Q) : x_V S 26 64 L (st) μ n Q := x_iload d26_64 hl h
theorem s26_66 {S : Nat × (Nat → Int32)} {L : List (Option Value)} {st : List Value} {n : Nat} {Q : xQ} {μ : xM}  (h : x_V S 26 68 L (.int (I 39) :: st) μ n Q) : x_V S 26 66 L (st) μ n Q := x_bipush (by decide +kernel) d26_66 h
theorem s26_68 {S : Nat × (Nat → Int32)} {L : List (Option Value)} {st : List Value} {n : Nat} {Q : xQ} {μ : xM} {x y : Int} (hx : ib x) (hy : ib y) (kt : x ≠ y → x_V S 26 86 L (st) μ n Q) (kf : x = y → x_V S 26 71 L (st) μ n Q) : x_V S 26 68 L (.int (I y) :: .int (I x) :: st) μ n Q := v_icmp_ne d26_68 (by decide) hx hy kt kf
theorem s26_71 {S : Nat × (Nat → Int32)} {L : List (Option Value)} {st : List Value} {n : Nat} {Q : xQ} {μ : xM} {a : Nat} (hl : L[1]? = some (some (.ref a))) (h : x_V S 26 72 L (.ref a :: st) μ n Q) : x_V S 26 71 L (st) μ n Q := x_aload_n d26_71 hl h
theorem s26_71N {S : Nat × (Nat → Int32)} {L : List (Option Value)} {st : List Value} {n : Nat} {Q : xQ} {μ : xM} (hl : L[1]? = some (some .null)) (h : x_V S 26 72 L (.null :: st) μ n Q) : x_V S 26 71 L st μ n Q := x_aload_nN d26_71 hl h
theorem s26_72 {S : Nat × (Nat → Int32)} {L : List (Option Value)} {st : List Value} {n : Nat} {Q : xQ} {μ : xM} {x : Int32} (hl : L[4]? = some (some (.int x))) (h : x_V S 26 74 L (.int x :: st) μ n Q) : x_V S 26 72 L (st) μ n Q := x_iload d26_72 hl h
theorem s26_74 {S : Nat × (Nat → Int32)} {L : List (Option Value)} {st : List Value} {n : Nat} {Q : xQ} {μ : xM} {a : Nat} (hl : L[0]? = some (some (.ref a))) (h : x_V S 26 75 L (.ref a :: st) μ n Q) : x_V S 26 74 L (st) μ n Q := x_aload_n d26_74 hl h
theorem s26_74N {S : Nat × (Nat → Int32)} {L : List (Option Value)} {st : List Value} {n : Nat} {Q : xQ} {μ : xM} (hl : L[0]? = some (some .null)) (h : x_V S 26 75 L (.null :: st) μ n Q) : x_V S 26 74 L st μ n Q := x_aload_nN d26_74 hl h
theorem s26_75 {S : Nat × (Nat → Int32)} {L : List (Option Value)} {st : List Value} {n : Nat} {Q : xQ} {g : Nat → Nat → Int} {a : Nat} {v : Value} (hs : x_sh a = (3, 4)) (hp : x_pt a 3 = some v) (h : x_V S 26 78 L (v :: st) (x_vm g) n Q) : x_V S 26 75 L (.ref a :: st) (x_vm g) n Q := v_getp (i := 3) cf3 d26_75 (by decide) w73 hs hp h
theorem s26_78 {S : Nat × (Nat → Int32)} {L : List (Option Value)} {st : List Value} {n : Nat} {Q : xQ} {μ : xM} {x : Int32} (hl : L[3]? = some (some (.int x))) (h : x_V S 26 79 L (.int x :: st) μ n Q) : x_V S 26 78 L (st) μ n Q := x_iload_n d26_78 hl h
theorem s26_80 {S : Nat × (Nat → Int32)} {L : List (Option Value)} {st : List Value} {n : Nat} {Q : xQ} {μ : xM} {x0 : Int32} {x1 : Int32} {a : Nat} (hs : x_sh a = (2, 2)) (hst : st.length ≤ 4) (h : x_V S 14 0 [some (.ref a), some (.int x0), some (.int x1)] [] μ n (x_bk S 26 80 L st Q)) : x_V S 26 80 L (.int x1 :: .int x0 :: .ref a :: st) μ n Q := x_callV (k' := 14) (as := [.int x0, .int x1]) (na := 2) d26_80 ⟨w383, by decide +kernel, by decide, by decide, by decide, by decide, by decide⟩ cf2 w380 w381 w382 (by decide +kernel) rfl hs (fun v hv => by
    simp only [List.mem_cons, List.not_mem_nil, or_false] at hv
    rcases hv with rfl | rfl <;> first | rfl | assumption) hst h
theorem s26_83 {S : Nat × (Nat → Int32)} {L : List (Option Value)} {st : List Value} {n : Nat} {Q : xQ} {μ : xM}  (h : x_V S 26 108 L (st) μ n Q) : x_V S 26 83 L (st) μ n Q := x_goto (tgt := 108) (by decide) d26_83 h
theorem s26_86 {S : Nat × (Nat → Int32)} {L : List (Option Value)} {st : List Value} {n : Nat} {Q : xQ} {μ : xM} {a : Nat} (hl : L[0]? = some (some (.ref a))) (h : x_V S 26 87 L (.ref a :: st) μ n Q) : x_V S 26 86 L (st) μ n Q := x_aload_n d26_86 hl h
theorem s26_86N {S : Nat × (Nat → Int32)} {L : List (Option Value)} {st : List Value} {n : Nat} {Q : xQ} {μ : xM} (hl : L[0]? = some (some .null)) (h : x_V S 26 87 L (.null :: st) μ n Q) : x_V S 26 86 L st μ n Q := x_aload_nN d26_86 hl h
theorem s26_87 {S : Nat × (Nat → Int32)} {L : List (Option Value)} {st : List Value} {n : Nat} {Q : xQ} {g : Nat → Nat → Int} {a : Nat} {v : Value} (hs : x_sh a = (3, 4)) (hp : x_pt a 3 = some v) (h : x_V S 26 90 L (v :: st) (x_vm g) n Q) : x_V S 26 87 L (.ref a :: st) (x_vm g) n Q := v_getp (i := 3) cf3 d26_87 (by decide) w73 hs hp h
theorem s26_90 {S : Nat × (Nat → Int32)} {L : List (Option Value)} {st : List Value} {n : Nat} {Q : xQ} {μ : xM} {x : Int32} (hl : L[3]? = some (some (.int x))) (h : x_V S 26 91 L (.int x :: st) μ n Q) : x_V S 26 90 L (st) μ n Q := x_iload_n d26_90 hl h
theorem s26_92 {S : Nat × (Nat → Int32)} {L : List (Option Value)} {st : List Value} {n : Nat} {Q : xQ} {μ : xM}  (h : x_V S 26 93 L (.int (I (-1)) :: st) μ n Q) : x_V S 26 92 L (st) μ n Q := x_iconst (by decide +kernel) d26_92 h
theorem s26_93 {S : Nat × (Nat → Int32)} {L : List (Option Value)} {st : List Value} {n : Nat} {Q : xQ} {μ : xM} {x y : Int} (hx : ib x) (hy : ib y) (kt : x = y → x_V S 26 108 L (st) μ n Q) (kf : x ≠ y → x_V S 26 96 L (st) μ n Q) : x_V S 26 93 L (.int (I y) :: .int (I x) :: st) μ n Q := v_icmp_eq d26_93 (by decide) hx hy kt kf
theorem s26_96 {S : Nat × (Nat → Int32)} {L : List (Option Value)} {st : List Value} {n : Nat} {Q : xQ} {μ : xM} {a : Nat} (hl : L[1]? = some (some (.ref a))) (h : x_V S 26 97 L (.ref a :: st) μ n Q) : x_V S 26 96 L (st) μ n Q := x_aload_n d26_96 hl h
theorem s26_96N {S : Nat × (Nat → Int32)} {L : List (Option Value)} {st : List Value} {n : Nat} {Q : xQ} {μ : xM} (hl : L[1]? = some (some .null)) (h : x_V S 26 97 L (.null :: st) μ n Q) : x_V S 26 96 L st μ n Q := x_aload_nN d26_96 hl h
theorem s26_97 {S : Nat × (Nat → Int32)} {L : List (Option Value)} {st : List Value} {n : Nat} {Q : xQ} {μ : xM} {x : Int32} (hl : L[4]? = some (some (.int x))) (h : x_V S 26 99 L (.int x :: st) μ n Q) : x_V S 26 97 L (st) μ n Q := x_iload d26_97 hl h
theorem s26_99 {S : Nat × (Nat → Int32)} {L : List (Option Value)} {st : List Value} {n : Nat} {Q : xQ} {μ : xM} {a : Nat} (hl : L[0]? = some (some (.ref a))) (h : x_V S 26 100 L (.ref a :: st) μ n Q) : x_V S 26 99 L (st) μ n Q := x_aload_n d26_99 hl h
theorem s26_99N {S : Nat × (Nat → Int32)} {L : List (Option Value)} {st : List Value} {n : Nat} {Q : xQ} {μ : xM} (hl : L[0]? = some (some .null)) (h : x_V S 26 100 L (.null :: st) μ n Q) : x_V S 26 99 L st μ n Q := x_aload_nN d26_99 hl h
theorem s26_100 {S : Nat × (Nat → Int32)} {L : List (Option Value)} {st : List Value} {n : Nat} {Q : xQ} {g : Nat → Nat → Int} {a : Nat} {v : Value} (hs : x_sh a = (3, 4)) (hp : x_pt a 3 = some v) (h : x_V S 26 103 L (v :: st) (x_vm g) n Q) : x_V S 26 100 L (.ref a :: st) (x_vm g) n Q := v_getp (i := 3) cf3 d26_100 (by decide) w73 hs hp h
theorem s26_103 {S : Nat × (Nat → Int32)} {L : List (Option Value)} {st : List Value} {n : Nat} {Q : xQ} {μ : xM} {x : Int32} (hl : L[3]? = some (some (.int x))) (h : x_V S 26 104 L (.int x :: st) μ n Q) : x_V S 26 103 L (st) μ n Q := x_iload_n d26_103 hl h
theorem s26_105 {S : Nat × (Nat → Int32)} {L : List (Option Value)} {st : List Value} {n : Nat} {Q : xQ} {μ : xM} {x0 : Int32} {x1 : Int32} {a : Nat} (hs : x_sh a = (2, 2)) (hst : st.length ≤ 4) (h : x_V S 13 0 [some (.ref a), some (.int x0), some (.int x1)] [] μ n (x_bk S 26 105 L st Q)) : x_V S 26 105 L (.int x1 :: .int x0 :: .ref a :: st) μ n Q := x_callV (k' := 13) (as := [.int x0, .int x1]) (na := 2) d26_105 ⟨w396, by decide +kernel, by decide, by decide, by decide, by decide, by decide⟩ cf2 w393 w394 w395 (by decide +kernel) rfl hs (fun v hv => by
    simp only [List.mem_cons, List.not_mem_nil, or_false] at hv
    rcases hv with rfl | rfl <;> first | rfl | assumption) hst h
theorem s26_108 {S : Nat × (Nat → Int32)} {L : List (Option Value)} {st : List Value} {n : Nat} {Q : xQ} {μ : xM} {x : Int} (hl : L[3]? = some (some (.int (I x)))) (h : x_V S 26 111 (L.set 3 (some (.int (I (x + 1))))) (st) μ n Q) : x_V S 26 108 L (st) μ n Q := v_iinc d26_108 hl (by decide) h
theorem s26_111 {S : Nat × (Nat → Int32)} {L : List (Option Value)} {st : List Value} {n : Nat} {Q : xQ} {μ : xM}  (h : x_V S 26 10 L (st) μ n Q) : x_V S 26 111 L (st) μ n Q := x_goto (tgt := 10) (by decide) d26_111 h
theorem s26_114 {S : Nat × (Nat → Int32)} {L : List (Option Value)} {st : List Value} {n : Nat} {Q : xQ} {μ : xM}  (h : Q (.inl none) μ n) : x_V S 26 114 L ([]) μ n Q := x_return d26_114 rfl h
theorem mC_37 : mC 37 = prog_7_method_1_code := rfl
theorem d37_0 : decode (mC 37) 0 = .ok (.aload_n 0, 1) := by rw [mC_37]; decide +kernel
theorem d37_1 : decode (mC 37) 1 = .ok (.invokespecial 1, 3) := by rw [mC_37]; decide +kernel
theorem d37_4 : decode (mC 37) 4 = .ok (.aload_n 0, 1) := by rw [mC_37]; decide +kernel
theorem d37_5 : decode (mC 37) 5 = .ok (.bipush 21, 2) := by rw [mC_37]; decide +kernel
theorem d37_7 : decode (mC 37) 7 = .ok (.anewarray 9, 3) := by rw [mC_37]; decide +kernel
theorem d37_10 : decode (mC 37) 10 = .ok (.putfield 11, 3) := by rw [mC_37]; decide +kernel
theorem d37_13 : decode (mC 37) 13 = .ok (.aload_n 0, 1) := by rw [mC_37]; decide +kernel
theorem d37_14 : decode (mC 37) 14 = .ok (.new 15, 3) := by rw [mC_37]; decide +kernel
theorem d37_17 : decode (mC 37) 17 = .ok (.dup, 1) := by rw [mC_37]; decide +kernel
theorem d37_18 : decode (mC 37) 18 = .ok (.invokespecial 17, 3) := by rw [mC_37]; decide +kernel
theorem d37_21 : decode (mC 37) 21 = .ok (.putfield 18, 3) := by rw [mC_37]; decide +kernel
theorem d37_24 : decode (mC 37) 24 = .ok (.iconst 0, 1) := by rw [mC_37]; decide +kernel
theorem d37_25 : decode (mC 37) 25 = .ok (.istore_n 1, 1) := by rw [mC_37]; decide +kernel
theorem d37_26 : decode (mC 37) 26 = .ok (.iload_n 1, 1) := by rw [mC_37]; decide +kernel
theorem d37_27 : decode (mC 37) 27 = .ok (.aload_n 0, 1) := by rw [mC_37]; decide +kernel
theorem d37_28 : decode (mC 37) 28 = .ok (.getfield 11, 3) := by rw [mC_37]; decide +kernel
theorem d37_31 : decode (mC 37) 31 = .ok (.arraylength, 1) := by rw [mC_37]; decide +kernel
theorem d37_32 : decode (mC 37) 32 = .ok (.if_icmp .ge 22, 3) := by rw [mC_37]; decide +kernel
theorem d37_35 : decode (mC 37) 35 = .ok (.aload_n 0, 1) := by rw [mC_37]; decide +kernel
theorem d37_36 : decode (mC 37) 36 = .ok (.getfield 11, 3) := by rw [mC_37]; decide +kernel
theorem d37_39 : decode (mC 37) 39 = .ok (.iload_n 1, 1) := by rw [mC_37]; decide +kernel
theorem d37_40 : decode (mC 37) 40 = .ok (.new 9, 3) := by rw [mC_37]; decide +kernel
theorem d37_43 : decode (mC 37) 43 = .ok (.dup, 1) := by rw [mC_37]; decide +kernel
theorem d37_44 : decode (mC 37) 44 = .ok (.invokespecial 22, 3) := by rw [mC_37]; decide +kernel
theorem d37_47 : decode (mC 37) 47 = .ok (.aastore, 1) := by rw [mC_37]; decide +kernel
theorem d37_48 : decode (mC 37) 48 = .ok (.iinc 1 1, 3) := by rw [mC_37]; decide +kernel
theorem d37_51 : decode (mC 37) 51 = .ok (.goto (-25), 3) := by rw [mC_37]; decide +kernel
theorem d37_54 : decode (mC 37) 54 = .ok (.return_, 1) := by rw [mC_37]; decide +kernel
theorem s37_0 {S : Nat × (Nat → Int32)} {L : List (Option Value)} {st : List Value} {n : Nat} {Q : xQ} {μ : xM} {a : Nat} (hl : L[0]? = some (some (.ref a))) (h : x_V S 37 1 L (.ref a :: st) μ n Q) : x_V S 37 0 L (st) μ n Q := x_aload_n d37_0 hl h
theorem s37_0N {S : Nat × (Nat → Int32)} {L : List (Option Value)} {st : List Value} {n : Nat} {Q : xQ} {μ : xM} (hl : L[0]? = some (some .null)) (h : x_V S 37 1 L (.null :: st) μ n Q) : x_V S 37 0 L st μ n Q := x_aload_nN d37_0 hl h
theorem s37_1 {S : Nat × (Nat → Int32)} {L : List (Option Value)} {st : List Value} {n : Nat} {Q : xQ} {μ : xM} {a : Nat} (hst : st.length ≤ 4) (h : x_V S 37 4 L (st) μ n Q) : x_V S 37 1 L (.ref a :: st) μ n Q := x_objInit d37_1 w97 w26 w27 ⟨by decide, by decide⟩ hst h
theorem s37_4 {S : Nat × (Nat → Int32)} {L : List (Option Value)} {st : List Value} {n : Nat} {Q : xQ} {μ : xM} {a : Nat} (hl : L[0]? = some (some (.ref a))) (h : x_V S 37 5 L (.ref a :: st) μ n Q) : x_V S 37 4 L (st) μ n Q := x_aload_n d37_4 hl h
theorem s37_4N {S : Nat × (Nat → Int32)} {L : List (Option Value)} {st : List Value} {n : Nat} {Q : xQ} {μ : xM} (hl : L[0]? = some (some .null)) (h : x_V S 37 5 L (.null :: st) μ n Q) : x_V S 37 4 L st μ n Q := x_aload_nN d37_4 hl h
theorem s37_5 {S : Nat × (Nat → Int32)} {L : List (Option Value)} {st : List Value} {n : Nat} {Q : xQ} {μ : xM}  (h : x_V S 37 7 L (.int (I 21) :: st) μ n Q) : x_V S 37 5 L (st) μ n Q := x_bipush (by decide +kernel) d37_5 h
theorem s37_7 {S : Nat × (Nat → Int32)} {L : List (Option Value)} {st : List Value} {n : Nat} {Q : xQ} {μ : xM} {N : Nat} {i : Int32} (hs : x_sh n = (103, N)) (hi : ¬ i < 0) (hN : i.toNatClampNeg = N) (hb : N ≤ 8000) (hn : n < x_NM) (h : x_V S 37 10 L (.ref n :: st) (x_nw μ n (fun _ => .null)) (n + 1) Q) : x_V S 37 7 L (.int i :: st) μ n Q := x_anew (kd := 103) d37_7 w98 w99 rfl (by decide) hs hi hN (by omega) hn h
theorem s37_10 {S : Nat × (Nat → Int32)} {L : List (Option Value)} {st : List Value} {n : Nat} {Q : xQ} {μ : xM} {a b : Nat} (hs : x_sh a = (5, 3)) (h : x_V S 37 13 L (st) (x_up μ a 0 (.ref b)) n Q) : x_V S 37 10 L (.ref b :: .ref a :: st) μ n Q := x_putF (i := 0) cf5 d37_10 (by decide) rfl rfl rfl w103 hs (fun _ => ⟨rfl, rfl⟩) h
theorem s37_13 {S : Nat × (Nat → Int32)} {L : List (Option Value)} {st : List Value} {n : Nat} {Q : xQ} {μ : xM} {a : Nat} (hl : L[0]? = some (some (.ref a))) (h : x_V S 37 14 L (.ref a :: st) μ n Q) : x_V S 37 13 L (st) μ n Q := x_aload_n d37_13 hl h
theorem s37_13N {S : Nat × (Nat → Int32)} {L : List (Option Value)} {st : List Value} {n : Nat} {Q : xQ} {μ : xM} (hl : L[0]? = some (some .null)) (h : x_V S 37 14 L (.null :: st) μ n Q) : x_V S 37 13 L st μ n Q := x_aload_nN d37_13 hl h
theorem s37_14 {S : Nat × (Nat → Int32)} {L : List (Option Value)} {st : List Value} {n : Nat} {Q : xQ} {μ : xM}  (hs : x_sh n = (2, 2)) (hn : n < x_NM) (h : x_V S 37 17 L (.ref n :: st) (x_nw μ n (fun i => defaultValue (xt2 i))) (n + 1) Q) : x_V S 37 14 L (st) μ n Q := x_new cf2 d37_14 w100 hs hn h
theorem s37_17 {S : Nat × (Nat → Int32)} {L : List (Option Value)} {st : List Value} {n : Nat} {Q : xQ} {μ : xM} {v : Value} (hc : v.category = 1) (h : x_V S 37 18 L (v :: v :: st) μ n Q) : x_V S 37 17 L (v :: st) μ n Q := x_dup hc d37_17 h
theorem s37_18 {S : Nat × (Nat → Int32)} {L : List (Option Value)} {st : List Value} {n : Nat} {Q : xQ} {μ : xM}  {a : Nat} (hst : st.length ≤ 4) (h : x_V S 5 0 [some (.ref a)] [] μ n (x_bk S 37 18 L st Q)) : x_V S 37 18 L (.ref a :: st) μ n Q := x_callIN (k' := 5) (as := []) (na := 0) d37_18 ⟨w38, by decide +kernel, by decide, by decide, by decide, by decide, by decide⟩ rfl rfl rfl w101 w37 (by decide +kernel) rfl (fun v hv => by
    cases hv) hst h
theorem s37_21 {S : Nat × (Nat → Int32)} {L : List (Option Value)} {st : List Value} {n : Nat} {Q : xQ} {μ : xM} {a b : Nat} (hs : x_sh a = (5, 3)) (h : x_V S 37 24 L (st) (x_up μ a 1 (.ref b)) n Q) : x_V S 37 21 L (.ref b :: .ref a :: st) μ n Q := x_putF (i := 1) cf5 d37_21 (by decide) rfl rfl rfl w104 hs (fun _ => ⟨rfl, rfl⟩) h
theorem s37_24 {S : Nat × (Nat → Int32)} {L : List (Option Value)} {st : List Value} {n : Nat} {Q : xQ} {μ : xM}  (h : x_V S 37 25 L (.int (I 0) :: st) μ n Q) : x_V S 37 24 L (st) μ n Q := x_iconst (by decide +kernel) d37_24 h
theorem s37_25 {S : Nat × (Nat → Int32)} {L : List (Option Value)} {st : List Value} {n : Nat} {Q : xQ} {μ : xM} {x : Int32} (h : x_V S 37 26 (L.set 1 (some (.int x))) (st) μ n Q) : x_V S 37 25 L (.int x :: st) μ n Q := x_istore_n d37_25 (by decide) h
theorem s37_26 {S : Nat × (Nat → Int32)} {L : List (Option Value)} {st : List Value} {n : Nat} {Q : xQ} {μ : xM} {x : Int32} (hl : L[1]? = some (some (.int x))) (h : x_V S 37 27 L (.int x :: st) μ n Q) : x_V S 37 26 L (st) μ n Q := x_iload_n d37_26 hl h
theorem s37_27 {S : Nat × (Nat → Int32)} {L : List (Option Value)} {st : List Value} {n : Nat} {Q : xQ} {μ : xM} {a : Nat} (hl : L[0]? = some (some (.ref a))) (h : x_V S 37 28 L (.ref a :: st) μ n Q) : x_V S 37 27 L (st) μ n Q := x_aload_n d37_27 hl h
theorem s37_27N {S : Nat × (Nat → Int32)} {L : List (Option Value)} {st : List Value} {n : Nat} {Q : xQ} {μ : xM} (hl : L[0]? = some (some .null)) (h : x_V S 37 28 L (.null :: st) μ n Q) : x_V S 37 27 L st μ n Q := x_aload_nN d37_27 hl h
theorem s37_28 {S : Nat × (Nat → Int32)} {L : List (Option Value)} {st : List Value} {n : Nat} {Q : xQ} {μ : xM} {a : Nat} (hs : x_sh a = (5, 3)) (h : x_V S 37 31 L (μ a 0 :: st) μ n Q) : x_V S 37 28 L (.ref a :: st) μ n Q := x_get (i := 0) cf5 d37_28 (by decide) w103 hs h
theorem s37_32 {S : Nat × (Nat → Int32)} {L : List (Option Value)} {st : List Value} {n : Nat} {Q : xQ} {μ : xM} {x y : Int} (hx : ib x) (hy : ib y) (kt : y ≤ x → x_V S 37 54 L (st) μ n Q) (kf : x < y → x_V S 37 35 L (st) μ n Q) : x_V S 37 32 L (.int (I y) :: .int (I x) :: st) μ n Q := v_icmp_ge d37_32 (by decide) hx hy kt kf
theorem s37_35 {S : Nat × (Nat → Int32)} {L : List (Option Value)} {st : List Value} {n : Nat} {Q : xQ} {μ : xM} {a : Nat} (hl : L[0]? = some (some (.ref a))) (h : x_V S 37 36 L (.ref a :: st) μ n Q) : x_V S 37 35 L (st) μ n Q := x_aload_n d37_35 hl h
theorem s37_35N {S : Nat × (Nat → Int32)} {L : List (Option Value)} {st : List Value} {n : Nat} {Q : xQ} {μ : xM} (hl : L[0]? = some (some .null)) (h : x_V S 37 36 L (.null :: st) μ n Q) : x_V S 37 35 L st μ n Q := x_aload_nN d37_35 hl h
theorem s37_36 {S : Nat × (Nat → Int32)} {L : List (Option Value)} {st : List Value} {n : Nat} {Q : xQ} {μ : xM} {a : Nat} (hs : x_sh a = (5, 3)) (h : x_V S 37 39 L (μ a 0 :: st) μ n Q) : x_V S 37 36 L (.ref a :: st) μ n Q := x_get (i := 0) cf5 d37_36 (by decide) w103 hs h
theorem s37_39 {S : Nat × (Nat → Int32)} {L : List (Option Value)} {st : List Value} {n : Nat} {Q : xQ} {μ : xM} {x : Int32} (hl : L[1]? = some (some (.int x))) (h : x_V S 37 40 L (.int x :: st) μ n Q) : x_V S 37 39 L (st) μ n Q := x_iload_n d37_39 hl h
theorem s37_40 {S : Nat × (Nat → Int32)} {L : List (Option Value)} {st : List Value} {n : Nat} {Q : xQ} {μ : xM}  (hs : x_sh n = (3, 4)) (hn : n < x_NM) (h : x_V S 37 43 L (.ref n :: st) (x_nw μ n (fun i => defaultValue (xt3 i))) (n + 1) Q) : x_V S 37 40 L (st) μ n Q := x_new cf3 d37_40 w98 hs hn h
theorem s37_43 {S : Nat × (Nat → Int32)} {L : List (Option Value)} {st : List Value} {n : Nat} {Q : xQ} {μ : xM} {v : Value} (hc : v.category = 1) (h : x_V S 37 44 L (v :: v :: st) μ n Q) : x_V S 37 43 L (v :: st) μ n Q := x_dup hc d37_43 h
theorem s37_44 {S : Nat × (Nat → Int32)} {L : List (Option Value)} {st : List Value} {n : Nat} {Q : xQ} {μ : xM}  {a : Nat} (hst : st.length ≤ 4) (h : x_V S 21 0 [some (.ref a)] [] μ n (x_bk S 37 44 L st Q)) : x_V S 37 44 L (.ref a :: st) μ n Q := x_callIN (k' := 21) (as := []) (na := 0) d37_44 ⟨w63, by decide +kernel, by decide, by decide, by decide, by decide, by decide⟩ rfl rfl rfl w102 w62 (by decide +kernel) rfl (fun v hv => by
    cases hv) hst h
theorem s37_48 {S : Nat × (Nat → Int32)} {L : List (Option Value)} {st : List Value} {n : Nat} {Q : xQ} {μ : xM} {x : Int} (hl : L[1]? = some (some (.int (I x)))) (h : x_V S 37 51 (L.set 1 (some (.int (I (x + 1))))) (st) μ n Q) : x_V S 37 48 L (st) μ n Q := v_iinc d37_48 hl (by decide) h
theorem s37_51 {S : Nat × (Nat → Int32)} {L : List (Option Value)} {st : List Value} {n : Nat} {Q : xQ} {μ : xM}  (h : x_V S 37 26 L (st) μ n Q) : x_V S 37 51 L (st) μ n Q := x_goto (tgt := 26) (by decide) d37_51 h
theorem s37_54 {S : Nat × (Nat → Int32)} {L : List (Option Value)} {st : List Value} {n : Nat} {Q : xQ} {μ : xM}  (h : Q (.inl none) μ n) : x_V S 37 54 L ([]) μ n Q := x_return d37_54 rfl h
theorem mC_38 : mC 38 = prog_7_method_2_code := rfl
theorem d38_0 : decode (mC 38) 0 = .ok (.aload_n 0, 1) := by rw [mC_38]; decide +kernel
theorem d38_1 : decode (mC 38) 1 = .ok (.iconst 0, 1) := by rw [mC_38]; decide +kernel
theorem d38_2 : decode (mC 38) 2 = .ok (.putfield 23, 3) := by rw [mC_38]; decide +kernel
theorem d38_5 : decode (mC 38) 5 = .ok (.return_, 1) := by rw [mC_38]; decide +kernel
theorem s38_0 {S : Nat × (Nat → Int32)} {L : List (Option Value)} {st : List Value} {n : Nat} {Q : xQ} {μ : xM} {a : Nat} (hl : L[0]? = some (some (.ref a))) (h : x_V S 38 1 L (.ref a :: st) μ n Q) : x_V S 38 0 L (st) μ n Q := x_aload_n d38_0 hl h
theorem s38_0N {S : Nat × (Nat → Int32)} {L : List (Option Value)} {st : List Value} {n : Nat} {Q : xQ} {μ : xM} (hl : L[0]? = some (some .null)) (h : x_V S 38 1 L (.null :: st) μ n Q) : x_V S 38 0 L st μ n Q := x_aload_nN d38_0 hl h
theorem s38_1 {S : Nat × (Nat → Int32)} {L : List (Option Value)} {st : List Value} {n : Nat} {Q : xQ} {μ : xM}  (h : x_V S 38 2 L (.int (I 0) :: st) μ n Q) : x_V S 38 1 L (st) μ n Q := x_iconst (by decide +kernel) d38_1 h
theorem s38_2 {S : Nat × (Nat → Int32)} {L : List (Option Value)} {st : List Value} {n : Nat} {Q : xQ} {g : Nat → Nat → Int} {a : Nat} {x : Int} (hs : x_sh a = (5, 3)) (hp : x_pt a 2 = none) (ha : a ≠ x_out) (h : x_V S 38 5 L (st) (x_vm (x_uf g a 2 x)) n Q) : x_V S 38 2 L (.int (I x) :: .ref a :: st) (x_vm g) n Q := v_put (i := 2) cf5 d38_2 (by decide) rfl w105 hs rfl hp ha h
theorem s38_5 {S : Nat × (Nat → Int32)} {L : List (Option Value)} {st : List Value} {n : Nat} {Q : xQ} {μ : xM}  (h : Q (.inl none) μ n) : x_V S 38 5 L ([]) μ n Q := x_return d38_5 rfl h
theorem mC_39 : mC 39 = prog_7_method_3_code := rfl
theorem d39_0 : decode (mC 39) 0 = .ok (.aload_n 0, 1) := by rw [mC_39]; decide +kernel
theorem d39_1 : decode (mC 39) 1 = .ok (.getfield 11, 3) := by rw [mC_39]; decide +kernel
theorem d39_4 : decode (mC 39) 4 = .ok (.aload_n 0, 1) := by rw [mC_39]; decide +kernel
theorem d39_5 : decode (mC 39) 5 = .ok (.getfield 23, 3) := by rw [mC_39]; decide +kernel
theorem d39_8 : decode (mC 39) 8 = .ok (.bipush 20, 2) := by rw [mC_39]; decide +kernel
theorem d39_10 : decode (mC 39) 10 = .ok (.if_icmp .ge 10, 3) := by rw [mC_39]; decide +kernel
theorem d39_13 : decode (mC 39) 13 = .ok (.aload_n 0, 1) := by rw [mC_39]; decide +kernel
theorem d39_14 : decode (mC 39) 14 = .ok (.getfield 23, 3) := by rw [mC_39]; decide +kernel
theorem d39_17 : decode (mC 39) 17 = .ok (.goto 5, 3) := by rw [mC_39]; decide +kernel
theorem d39_20 : decode (mC 39) 20 = .ok (.bipush 20, 2) := by rw [mC_39]; decide +kernel
theorem d39_22 : decode (mC 39) 22 = .ok (.aaload, 1) := by rw [mC_39]; decide +kernel
theorem d39_23 : decode (mC 39) 23 = .ok (.astore_n 1, 1) := by rw [mC_39]; decide +kernel
theorem d39_24 : decode (mC 39) 24 = .ok (.aload_n 0, 1) := by rw [mC_39]; decide +kernel
theorem d39_25 : decode (mC 39) 25 = .ok (.dup, 1) := by rw [mC_39]; decide +kernel
theorem d39_26 : decode (mC 39) 26 = .ok (.getfield 23, 3) := by rw [mC_39]; decide +kernel
theorem d39_29 : decode (mC 39) 29 = .ok (.iconst 1, 1) := by rw [mC_39]; decide +kernel
theorem d39_30 : decode (mC 39) 30 = .ok (.iadd, 1) := by rw [mC_39]; decide +kernel
theorem d39_31 : decode (mC 39) 31 = .ok (.putfield 23, 3) := by rw [mC_39]; decide +kernel
theorem d39_34 : decode (mC 39) 34 = .ok (.aload_n 1, 1) := by rw [mC_39]; decide +kernel
theorem d39_35 : decode (mC 39) 35 = .ok (.areturn, 1) := by rw [mC_39]; decide +kernel
theorem s39_0 {S : Nat × (Nat → Int32)} {L : List (Option Value)} {st : List Value} {n : Nat} {Q : xQ} {μ : xM} {a : Nat} (hl : L[0]? = some (some (.ref a))) (h : x_V S 39 1 L (.ref a :: st) μ n Q) : x_V S 39 0 L (st) μ n Q := x_aload_n d39_0 hl h
theorem s39_0N {S : Nat × (Nat → Int32)} {L : List (Option Value)} {st : List Value} {n : Nat} {Q : xQ} {μ : xM} (hl : L[0]? = some (some .null)) (h : x_V S 39 1 L (.null :: st) μ n Q) : x_V S 39 0 L st μ n Q := x_aload_nN d39_0 hl h
theorem s39_1 {S : Nat × (Nat → Int32)} {L : List (Option Value)} {st : List Value} {n : Nat} {Q : xQ} {g : Nat → Nat → Int} {a : Nat} {v : Value} (hs : x_sh a = (5, 3)) (hp : x_pt a 0 = some v) (h : x_V S 39 4 L (v :: st) (x_vm g) n Q) : x_V S 39 1 L (.ref a :: st) (x_vm g) n Q := v_getp (i := 0) cf5 d39_1 (by decide) w103 hs hp h
theorem s39_4 {S : Nat × (Nat → Int32)} {L : List (Option Value)} {st : List Value} {n : Nat} {Q : xQ} {μ : xM} {a : Nat} (hl : L[0]? = some (some (.ref a))) (h : x_V S 39 5 L (.ref a :: st) μ n Q) : x_V S 39 4 L (st) μ n Q := x_aload_n d39_4 hl h
theorem s39_4N {S : Nat × (Nat → Int32)} {L : List (Option Value)} {st : List Value} {n : Nat} {Q : xQ} {μ : xM} (hl : L[0]? = some (some .null)) (h : x_V S 39 5 L (.null :: st) μ n Q) : x_V S 39 4 L st μ n Q := x_aload_nN d39_4 hl h
theorem s39_5 {S : Nat × (Nat → Int32)} {L : List (Option Value)} {st : List Value} {n : Nat} {Q : xQ} {g : Nat → Nat → Int} {a : Nat} (hs : x_sh a = (5, 3)) (hp : x_pt a 2 = none) (ha : a ≠ x_out) (h : x_V S 39 8 L (.int (I (g a 2)) :: st) (x_vm g) n Q) : x_V S 39 5 L (.ref a :: st) (x_vm g) n Q := v_get (i := 2) cf5 d39_5 (by decide) w105 hs hp ha h
theorem s39_8 {S : Nat × (Nat → Int32)} {L : List (Option Value)} {st : List Value} {n : Nat} {Q : xQ} {μ : xM}  (h : x_V S 39 10 L (.int (I 20) :: st) μ n Q) : x_V S 39 8 L (st) μ n Q := x_bipush (by decide +kernel) d39_8 h
theorem s39_10 {S : Nat × (Nat → Int32)} {L : List (Option Value)} {st : List Value} {n : Nat} {Q : xQ} {μ : xM} {x y : Int} (hx : ib x) (hy : ib y) (kt : y ≤ x → x_V S 39 20 L (st) μ n Q) (kf : x < y → x_V S 39 13 L (st) μ n Q) : x_V S 39 10 L (.int (I y) :: .int (I x) :: st) μ n Q := v_icmp_ge d39_10 (by decide) hx hy kt kf
theorem s39_13 {S : Nat × (Nat → Int32)} {L : List (Option Value)} {st : List Value} {n : Nat} {Q : xQ} {μ : xM} {a : Nat} (hl : L[0]? = some (some (.ref a))) (h : x_V S 39 14 L (.ref a :: st) μ n Q) : x_V S 39 13 L (st) μ n Q := x_aload_n d39_13 hl h
theorem s39_13N {S : Nat × (Nat → Int32)} {L : List (Option Value)} {st : List Value} {n : Nat} {Q : xQ} {μ : xM} (hl : L[0]? = some (some .null)) (h : x_V S 39 14 L (.null :: st) μ n Q) : x_V S 39 13 L st μ n Q := x_aload_nN d39_13 hl h
theorem s39_14 {S : Nat × (Nat → Int32)} {L : List (Option Value)} {st : List Value} {n : Nat} {Q : xQ} {g : Nat → Nat → Int} {a : Nat} (hs : x_sh a = (5, 3)) (hp : x_pt a 2 = none) (ha : a ≠ x_out) (h : x_V S 39 17 L (.int (I (g a 2)) :: st) (x_vm g) n Q) : x_V S 39 14 L (.ref a :: st) (x_vm g) n Q := v_get (i := 2) cf5 d39_14 (by decide) w105 hs hp ha h
theorem s39_17 {S : Nat × (Nat → Int32)} {L : List (Option Value)} {st : List Value} {n : Nat} {Q : xQ} {μ : xM}  (h : x_V S 39 22 L (st) μ n Q) : x_V S 39 17 L (st) μ n Q := x_goto (tgt := 22) (by decide) d39_17 h
theorem s39_20 {S : Nat × (Nat → Int32)} {L : List (Option Value)} {st : List Value} {n : Nat} {Q : xQ} {μ : xM}  (h : x_V S 39 22 L (.int (I 20) :: st) μ n Q) : x_V S 39 20 L (st) μ n Q := x_bipush (by decide +kernel) d39_20 h
theorem s39_23 {S : Nat × (Nat → Int32)} {L : List (Option Value)} {st : List Value} {n : Nat} {Q : xQ} {μ : xM} {a : Nat} (h : x_V S 39 24 (L.set 1 (some (.ref a))) (st) μ n Q) : x_V S 39 23 L (.ref a :: st) μ n Q := x_astore_n d39_23 (by decide) h
theorem s39_23N {S : Nat × (Nat → Int32)} {L : List (Option Value)} {st : List Value} {n : Nat} {Q : xQ} {μ : xM} (h : x_V S 39 24 (L.set 1 (some .null)) (st) μ n Q) : x_V S 39 23 L (.null :: st) μ n Q := x_astore_nN d39_23 (by decide) h
theorem s39_24 {S : Nat × (Nat → Int32)} {L : List (Option Value)} {st : List Value} {n : Nat} {Q : xQ} {μ : xM} {a : Nat} (hl : L[0]? = some (some (.ref a))) (h : x_V S 39 25 L (.ref a :: st) μ n Q) : x_V S 39 24 L (st) μ n Q := x_aload_n d39_24 hl h
theorem s39_24N {S : Nat × (Nat → Int32)} {L : List (Option Value)} {st : List Value} {n : Nat} {Q : xQ} {μ : xM} (hl : L[0]? = some (some .null)) (h : x_V S 39 25 L (.null :: st) μ n Q) : x_V S 39 24 L st μ n Q := x_aload_nN d39_24 hl h
theorem s39_25 {S : Nat × (Nat → Int32)} {L : List (Option Value)} {st : List Value} {n : Nat} {Q : xQ} {μ : xM} {v : Value} (hc : v.category = 1) (h : x_V S 39 26 L (v :: v :: st) μ n Q) : x_V S 39 25 L (v :: st) μ n Q := x_dup hc d39_25 h
theorem s39_26 {S : Nat × (Nat → Int32)} {L : List (Option Value)} {st : List Value} {n : Nat} {Q : xQ} {g : Nat → Nat → Int} {a : Nat} (hs : x_sh a = (5, 3)) (hp : x_pt a 2 = none) (ha : a ≠ x_out) (h : x_V S 39 29 L (.int (I (g a 2)) :: st) (x_vm g) n Q) : x_V S 39 26 L (.ref a :: st) (x_vm g) n Q := v_get (i := 2) cf5 d39_26 (by decide) w105 hs hp ha h
theorem s39_29 {S : Nat × (Nat → Int32)} {L : List (Option Value)} {st : List Value} {n : Nat} {Q : xQ} {μ : xM}  (h : x_V S 39 30 L (.int (I 1) :: st) μ n Q) : x_V S 39 29 L (st) μ n Q := x_iconst (by decide +kernel) d39_29 h
theorem s39_30 {S : Nat × (Nat → Int32)} {L : List (Option Value)} {st : List Value} {n : Nat} {Q : xQ} {μ : xM} {x y : Int} (h : x_V S 39 31 L (.int (I (x + y)) :: st) μ n Q) : x_V S 39 30 L (.int (I y) :: .int (I x) :: st) μ n Q := v_iadd d39_30 h
theorem s39_31 {S : Nat × (Nat → Int32)} {L : List (Option Value)} {st : List Value} {n : Nat} {Q : xQ} {g : Nat → Nat → Int} {a : Nat} {x : Int} (hs : x_sh a = (5, 3)) (hp : x_pt a 2 = none) (ha : a ≠ x_out) (h : x_V S 39 34 L (st) (x_vm (x_uf g a 2 x)) n Q) : x_V S 39 31 L (.int (I x) :: .ref a :: st) (x_vm g) n Q := v_put (i := 2) cf5 d39_31 (by decide) rfl w105 hs rfl hp ha h
theorem s39_34 {S : Nat × (Nat → Int32)} {L : List (Option Value)} {st : List Value} {n : Nat} {Q : xQ} {μ : xM} {a : Nat} (hl : L[1]? = some (some (.ref a))) (h : x_V S 39 35 L (.ref a :: st) μ n Q) : x_V S 39 34 L (st) μ n Q := x_aload_n d39_34 hl h
theorem s39_34N {S : Nat × (Nat → Int32)} {L : List (Option Value)} {st : List Value} {n : Nat} {Q : xQ} {μ : xM} (hl : L[1]? = some (some .null)) (h : x_V S 39 35 L (.null :: st) μ n Q) : x_V S 39 34 L st μ n Q := x_aload_nN d39_34 hl h
theorem s39_35 {S : Nat × (Nat → Int32)} {L : List (Option Value)} {st : List Value} {n : Nat} {Q : xQ} {μ : xM} {v : Value} (hv : v = .null ∨ ∃ a, v = .ref a) (h : Q (.inl (some v)) μ n) : x_V S 39 35 L (v :: []) μ n Q := x_areturn d39_35 rfl (Or.inl ⟨_, rfl⟩) hv h
theorem mC_40 : mC 40 = prog_7_method_4_code := rfl
theorem d40_0 : decode (mC 40) 0 = .ok (.iload_n 1, 1) := by rw [mC_40]; decide +kernel
theorem d40_1 : decode (mC 40) 1 = .ok (.ifCond .lt 21, 3) := by rw [mC_40]; decide +kernel
theorem d40_4 : decode (mC 40) 4 = .ok (.iload_n 1, 1) := by rw [mC_40]; decide +kernel
theorem d40_5 : decode (mC 40) 5 = .ok (.aload_n 0, 1) := by rw [mC_40]; decide +kernel
theorem d40_6 : decode (mC 40) 6 = .ok (.getfield 23, 3) := by rw [mC_40]; decide +kernel
theorem d40_9 : decode (mC 40) 9 = .ok (.if_icmp .ge 13, 3) := by rw [mC_40]; decide +kernel
theorem d40_12 : decode (mC 40) 12 = .ok (.iload_n 1, 1) := by rw [mC_40]; decide +kernel
theorem d40_13 : decode (mC 40) 13 = .ok (.bipush 20, 2) := by rw [mC_40]; decide +kernel
theorem d40_15 : decode (mC 40) 15 = .ok (.if_icmp .ge 7, 3) := by rw [mC_40]; decide +kernel
theorem d40_18 : decode (mC 40) 18 = .ok (.iconst 1, 1) := by rw [mC_40]; decide +kernel
theorem d40_19 : decode (mC 40) 19 = .ok (.goto 4, 3) := by rw [mC_40]; decide +kernel
theorem d40_22 : decode (mC 40) 22 = .ok (.iconst 0, 1) := by rw [mC_40]; decide +kernel
theorem d40_23 : decode (mC 40) 23 = .ok (.ireturn, 1) := by rw [mC_40]; decide +kernel
theorem s40_0 {S : Nat × (Nat → Int32)} {L : List (Option Value)} {st : List Value} {n : Nat} {Q : xQ} {μ : xM} {x : Int32} (hl : L[1]? = some (some (.int x))) (h : x_V S 40 1 L (.int x :: st) μ n Q) : x_V S 40 0 L (st) μ n Q := x_iload_n d40_0 hl h
theorem s40_1 {S : Nat × (Nat → Int32)} {L : List (Option Value)} {st : List Value} {n : Nat} {Q : xQ} {μ : xM} {x : Int} (hx : ib x) (kt : x < 0 → x_V S 40 22 L (st) μ n Q) (kf : 0 ≤ x → x_V S 40 4 L (st) μ n Q) : x_V S 40 1 L (.int (I x) :: st) μ n Q := v_if_lt d40_1 (by decide) hx kt kf
theorem s40_4 {S : Nat × (Nat → Int32)} {L : List (Option Value)} {st : List Value} {n : Nat} {Q : xQ} {μ : xM} {x : Int32} (hl : L[1]? = some (some (.int x))) (h : x_V S 40 5 L (.int x :: st) μ n Q) : x_V S 40 4 L (st) μ n Q := x_iload_n d40_4 hl h
theorem s40_5 {S : Nat × (Nat → Int32)} {L : List (Option Value)} {st : List Value} {n : Nat} {Q : xQ} {μ : xM} {a : Nat} (hl : L[0]? = some (some (.ref a))) (h : x_V S 40 6 L (.ref a :: st) μ n Q) : x_V S 40 5 L (st) μ n Q := x_aload_n d40_5 hl h
theorem s40_5N {S : Nat × (Nat → Int32)} {L : List (Option Value)} {st : List Value} {n : Nat} {Q : xQ} {μ : xM} (hl : L[0]? = some (some .null)) (h : x_V S 40 6 L (.null :: st) μ n Q) : x_V S 40 5 L st μ n Q := x_aload_nN d40_5 hl h
theorem s40_6 {S : Nat × (Nat → Int32)} {L : List (Option Value)} {st : List Value} {n : Nat} {Q : xQ} {g : Nat → Nat → Int} {a : Nat} (hs : x_sh a = (5, 3)) (hp : x_pt a 2 = none) (ha : a ≠ x_out) (h : x_V S 40 9 L (.int (I (g a 2)) :: st) (x_vm g) n Q) : x_V S 40 6 L (.ref a :: st) (x_vm g) n Q := v_get (i := 2) cf5 d40_6 (by decide) w105 hs hp ha h
theorem s40_9 {S : Nat × (Nat → Int32)} {L : List (Option Value)} {st : List Value} {n : Nat} {Q : xQ} {μ : xM} {x y : Int} (hx : ib x) (hy : ib y) (kt : y ≤ x → x_V S 40 22 L (st) μ n Q) (kf : x < y → x_V S 40 12 L (st) μ n Q) : x_V S 40 9 L (.int (I y) :: .int (I x) :: st) μ n Q := v_icmp_ge d40_9 (by decide) hx hy kt kf
theorem s40_12 {S : Nat × (Nat → Int32)} {L : List (Option Value)} {st : List Value} {n : Nat} {Q : xQ} {μ : xM} {x : Int32} (hl : L[1]? = some (some (.int x))) (h : x_V S 40 13 L (.int x :: st) μ n Q) : x_V S 40 12 L (st) μ n Q := x_iload_n d40_12 hl h
theorem s40_13 {S : Nat × (Nat → Int32)} {L : List (Option Value)} {st : List Value} {n : Nat} {Q : xQ} {μ : xM}  (h : x_V S 40 15 L (.int (I 20) :: st) μ n Q) : x_V S 40 13 L (st) μ n Q := x_bipush (by decide +kernel) d40_13 h
theorem s40_15 {S : Nat × (Nat → Int32)} {L : List (Option Value)} {st : List Value} {n : Nat} {Q : xQ} {μ : xM} {x y : Int} (hx : ib x) (hy : ib y) (kt : y ≤ x → x_V S 40 22 L (st) μ n Q) (kf : x < y → x_V S 40 18 L (st) μ n Q) : x_V S 40 15 L (.int (I y) :: .int (I x) :: st) μ n Q := v_icmp_ge d40_15 (by decide) hx hy kt kf
theorem s40_18 {S : Nat × (Nat → Int32)} {L : List (Option Value)} {st : List Value} {n : Nat} {Q : xQ} {μ : xM}  (h : x_V S 40 19 L (.int (I 1) :: st) μ n Q) : x_V S 40 18 L (st) μ n Q := x_iconst (by decide +kernel) d40_18 h
theorem s40_19 {S : Nat × (Nat → Int32)} {L : List (Option Value)} {st : List Value} {n : Nat} {Q : xQ} {μ : xM}  (h : x_V S 40 23 L (st) μ n Q) : x_V S 40 19 L (st) μ n Q := x_goto (tgt := 23) (by decide) d40_19 h
theorem s40_22 {S : Nat × (Nat → Int32)} {L : List (Option Value)} {st : List Value} {n : Nat} {Q : xQ} {μ : xM}  (h : x_V S 40 23 L (.int (I 0) :: st) μ n Q) : x_V S 40 22 L (st) μ n Q := x_iconst (by decide +kernel) d40_22 h
theorem s40_23 {S : Nat × (Nat → Int32)} {L : List (Option Value)} {st : List Value} {n : Nat} {Q : xQ} {μ : xM} {v : Int} (hv : v = 0 ∨ v = 1) (h : Q (.inl (some (.int (I v)))) μ n) : x_V S 40 23 L (.int (I v) :: []) μ n Q := v_zreturn d40_23 rfl hv h
theorem mC_41 : mC 41 = prog_7_method_5_code := rfl
theorem d41_0 : decode (mC 41) 0 = .ok (.aload_n 0, 1) := by rw [mC_41]; decide +kernel
theorem d41_1 : decode (mC 41) 1 = .ok (.iload_n 1, 1) := by rw [mC_41]; decide +kernel
theorem d41_2 : decode (mC 41) 2 = .ok (.invokevirtual 27, 3) := by rw [mC_41]; decide +kernel
theorem d41_5 : decode (mC 41) 5 = .ok (.ifCond .eq 16, 3) := by rw [mC_41]; decide +kernel
theorem d41_8 : decode (mC 41) 8 = .ok (.aload_n 0, 1) := by rw [mC_41]; decide +kernel
theorem d41_9 : decode (mC 41) 9 = .ok (.getfield 11, 3) := by rw [mC_41]; decide +kernel
theorem d41_12 : decode (mC 41) 12 = .ok (.iload_n 1, 1) := by rw [mC_41]; decide +kernel
theorem d41_13 : decode (mC 41) 13 = .ok (.aaload, 1) := by rw [mC_41]; decide +kernel
theorem d41_14 : decode (mC 41) 14 = .ok (.aload_n 0, 1) := by rw [mC_41]; decide +kernel
theorem d41_15 : decode (mC 41) 15 = .ok (.getfield 18, 3) := by rw [mC_41]; decide +kernel
theorem d41_18 : decode (mC 41) 18 = .ok (.invokevirtual 31, 3) := by rw [mC_41]; decide +kernel
theorem d41_21 : decode (mC 41) 21 = .ok (.aload_n 0, 1) := by rw [mC_41]; decide +kernel
theorem d41_22 : decode (mC 41) 22 = .ok (.getfield 18, 3) := by rw [mC_41]; decide +kernel
theorem d41_25 : decode (mC 41) 25 = .ok (.areturn, 1) := by rw [mC_41]; decide +kernel
theorem s41_0 {S : Nat × (Nat → Int32)} {L : List (Option Value)} {st : List Value} {n : Nat} {Q : xQ} {μ : xM} {a : Nat} (hl : L[0]? = some (some (.ref a))) (h : x_V S 41 1 L (.ref a :: st) μ n Q) : x_V S 41 0 L (st) μ n Q := x_aload_n d41_0 hl h
theorem s41_0N {S : Nat × (Nat → Int32)} {L : List (Option Value)} {st : List Value} {n : Nat} {Q : xQ} {μ : xM} (hl : L[0]? = some (some .null)) (h : x_V S 41 1 L (.null :: st) μ n Q) : x_V S 41 0 L st μ n Q := x_aload_nN d41_0 hl h
theorem s41_1 {S : Nat × (Nat → Int32)} {L : List (Option Value)} {st : List Value} {n : Nat} {Q : xQ} {μ : xM} {x : Int32} (hl : L[1]? = some (some (.int x))) (h : x_V S 41 2 L (.int x :: st) μ n Q) : x_V S 41 1 L (st) μ n Q := x_iload_n d41_1 hl h
theorem s41_2 {S : Nat × (Nat → Int32)} {L : List (Option Value)} {st : List Value} {n : Nat} {Q : xQ} {μ : xM} {x0 : Int32} {a : Nat} (hs : x_sh a = (5, 3)) (hst : st.length ≤ 4) (h : x_V S 40 0 [some (.ref a), some (.int x0)] [] μ n (x_bk S 41 2 L st Q)) : x_V S 41 2 L (.int x0 :: .ref a :: st) μ n Q := x_callV (k' := 40) (as := [.int x0]) (na := 1) d41_2 ⟨w659, by decide +kernel, by decide, by decide, by decide, by decide, by decide⟩ cf5 w664 w657 w658 (by decide +kernel) rfl hs (fun v hv => by
    simp only [List.mem_cons, List.not_mem_nil, or_false] at hv
    rcases hv with rfl <;> first | rfl | assumption) hst h
theorem s41_5 {S : Nat × (Nat → Int32)} {L : List (Option Value)} {st : List Value} {n : Nat} {Q : xQ} {μ : xM} {x : Int} (hx : ib x) (kt : x = 0 → x_V S 41 21 L (st) μ n Q) (kf : x ≠ 0 → x_V S 41 8 L (st) μ n Q) : x_V S 41 5 L (.int (I x) :: st) μ n Q := v_if_eq d41_5 (by decide) hx kt kf
theorem s41_8 {S : Nat × (Nat → Int32)} {L : List (Option Value)} {st : List Value} {n : Nat} {Q : xQ} {μ : xM} {a : Nat} (hl : L[0]? = some (some (.ref a))) (h : x_V S 41 9 L (.ref a :: st) μ n Q) : x_V S 41 8 L (st) μ n Q := x_aload_n d41_8 hl h
theorem s41_8N {S : Nat × (Nat → Int32)} {L : List (Option Value)} {st : List Value} {n : Nat} {Q : xQ} {μ : xM} (hl : L[0]? = some (some .null)) (h : x_V S 41 9 L (.null :: st) μ n Q) : x_V S 41 8 L st μ n Q := x_aload_nN d41_8 hl h
theorem s41_9 {S : Nat × (Nat → Int32)} {L : List (Option Value)} {st : List Value} {n : Nat} {Q : xQ} {g : Nat → Nat → Int} {a : Nat} {v : Value} (hs : x_sh a = (5, 3)) (hp : x_pt a 0 = some v) (h : x_V S 41 12 L (v :: st) (x_vm g) n Q) : x_V S 41 9 L (.ref a :: st) (x_vm g) n Q := v_getp (i := 0) cf5 d41_9 (by decide) w103 hs hp h
theorem s41_12 {S : Nat × (Nat → Int32)} {L : List (Option Value)} {st : List Value} {n : Nat} {Q : xQ} {μ : xM} {x : Int32} (hl : L[1]? = some (some (.int x))) (h : x_V S 41 13 L (.int x :: st) μ n Q) : x_V S 41 12 L (st) μ n Q := x_iload_n d41_12 hl h
theorem s41_14 {S : Nat × (Nat → Int32)} {L : List (Option Value)} {st : List Value} {n : Nat} {Q : xQ} {μ : xM} {a : Nat} (hl : L[0]? = some (some (.ref a))) (h : x_V S 41 15 L (.ref a :: st) μ n Q) : x_V S 41 14 L (st) μ n Q := x_aload_n d41_14 hl h
theorem s41_14N {S : Nat × (Nat → Int32)} {L : List (Option Value)} {st : List Value} {n : Nat} {Q : xQ} {μ : xM} (hl : L[0]? = some (some .null)) (h : x_V S 41 15 L (.null :: st) μ n Q) : x_V S 41 14 L st μ n Q := x_aload_nN d41_14 hl h
theorem s41_15 {S : Nat × (Nat → Int32)} {L : List (Option Value)} {st : List Value} {n : Nat} {Q : xQ} {g : Nat → Nat → Int} {a : Nat} {v : Value} (hs : x_sh a = (5, 3)) (hp : x_pt a 1 = some v) (h : x_V S 41 18 L (v :: st) (x_vm g) n Q) : x_V S 41 15 L (.ref a :: st) (x_vm g) n Q := v_getp (i := 1) cf5 d41_15 (by decide) w104 hs hp h
theorem s41_18 {S : Nat × (Nat → Int32)} {L : List (Option Value)} {st : List Value} {n : Nat} {Q : xQ} {μ : xM} {v0 : Value} (hc0 : v0.category = 1) {a : Nat} (hs : x_sh a = (3, 4)) (hst : st.length ≤ 4) (h : x_V S 25 0 [some (.ref a), some (v0), none, none] [] μ n (x_bk S 41 18 L st Q)) : x_V S 41 18 L (v0 :: .ref a :: st) μ n Q := x_callV (k' := 25) (as := [v0]) (na := 1) d41_18 ⟨w375, by decide +kernel, by decide, by decide, by decide, by decide, by decide⟩ cf3 w665 w373 w374 (by decide +kernel) rfl hs (fun v hv => by
    simp only [List.mem_cons, List.not_mem_nil, or_false] at hv
    rcases hv with rfl <;> first | rfl | assumption) hst h
theorem s41_21 {S : Nat × (Nat → Int32)} {L : List (Option Value)} {st : List Value} {n : Nat} {Q : xQ} {μ : xM} {a : Nat} (hl : L[0]? = some (some (.ref a))) (h : x_V S 41 22 L (.ref a :: st) μ n Q) : x_V S 41 21 L (st) μ n Q := x_aload_n d41_21 hl h
theorem s41_21N {S : Nat × (Nat → Int32)} {L : List (Option Value)} {st : List Value} {n : Nat} {Q : xQ} {μ : xM} (hl : L[0]? = some (some .null)) (h : x_V S 41 22 L (.null :: st) μ n Q) : x_V S 41 21 L st μ n Q := x_aload_nN d41_21 hl h
theorem s41_22 {S : Nat × (Nat → Int32)} {L : List (Option Value)} {st : List Value} {n : Nat} {Q : xQ} {g : Nat → Nat → Int} {a : Nat} {v : Value} (hs : x_sh a = (5, 3)) (hp : x_pt a 1 = some v) (h : x_V S 41 25 L (v :: st) (x_vm g) n Q) : x_V S 41 22 L (.ref a :: st) (x_vm g) n Q := v_getp (i := 1) cf5 d41_22 (by decide) w104 hs hp h
theorem s41_25 {S : Nat × (Nat → Int32)} {L : List (Option Value)} {st : List Value} {n : Nat} {Q : xQ} {μ : xM} {v : Value} (hv : v = .null ∨ ∃ a, v = .ref a) (h : Q (.inl (some v)) μ n) : x_V S 41 25 L (v :: []) μ n Q := x_areturn d41_25 rfl (Or.inl ⟨_, rfl⟩) hv h
theorem mC_42 : mC 42 = prog_10_method_1_code := rfl
theorem d42_0 : decode (mC 42) 0 = .ok (.aload_n 0, 1) := by rw [mC_42]; decide +kernel
theorem d42_1 : decode (mC 42) 1 = .ok (.invokespecial 3, 3) := by rw [mC_42]; decide +kernel
theorem d42_4 : decode (mC 42) 4 = .ok (.aload_n 0, 1) := by rw [mC_42]; decide +kernel
theorem d42_5 : decode (mC 42) 5 = .ok (.sipush 2560, 3) := by rw [mC_42]; decide +kernel
theorem d42_8 : decode (mC 42) 8 = .ok (.newarray .int, 2) := by rw [mC_42]; decide +kernel
theorem d42_10 : decode (mC 42) 10 = .ok (.putfield 11, 3) := by rw [mC_42]; decide +kernel
theorem d42_13 : decode (mC 42) 13 = .ok (.return_, 1) := by rw [mC_42]; decide +kernel
theorem s42_0 {S : Nat × (Nat → Int32)} {L : List (Option Value)} {st : List Value} {n : Nat} {Q : xQ} {μ : xM} {a : Nat} (hl : L[0]? = some (some (.ref a))) (h : x_V S 42 1 L (.ref a :: st) μ n Q) : x_V S 42 0 L (st) μ n Q := x_aload_n d42_0 hl h
theorem s42_0N {S : Nat × (Nat → Int32)} {L : List (Option Value)} {st : List Value} {n : Nat} {Q : xQ} {μ : xM} (hl : L[0]? = some (some .null)) (h : x_V S 42 1 L (.null :: st) μ n Q) : x_V S 42 0 L st μ n Q := x_aload_nN d42_0 hl h
theorem s42_1 {S : Nat × (Nat → Int32)} {L : List (Option Value)} {st : List Value} {n : Nat} {Q : xQ} {μ : xM} {a : Nat} (hst : st.length ≤ 4) (h : x_V S 42 4 L (st) μ n Q) : x_V S 42 1 L (.ref a :: st) μ n Q := x_objInit d42_1 w169 w26 w27 ⟨by decide, by decide⟩ hst h
theorem s42_4 {S : Nat × (Nat → Int32)} {L : List (Option Value)} {st : List Value} {n : Nat} {Q : xQ} {μ : xM} {a : Nat} (hl : L[0]? = some (some (.ref a))) (h : x_V S 42 5 L (.ref a :: st) μ n Q) : x_V S 42 4 L (st) μ n Q := x_aload_n d42_4 hl h
theorem s42_4N {S : Nat × (Nat → Int32)} {L : List (Option Value)} {st : List Value} {n : Nat} {Q : xQ} {μ : xM} (hl : L[0]? = some (some .null)) (h : x_V S 42 5 L (.null :: st) μ n Q) : x_V S 42 4 L st μ n Q := x_aload_nN d42_4 hl h
theorem s42_5 {S : Nat × (Nat → Int32)} {L : List (Option Value)} {st : List Value} {n : Nat} {Q : xQ} {μ : xM}  (h : x_V S 42 8 L (.int (I 2560) :: st) μ n Q) : x_V S 42 5 L (st) μ n Q := x_sipush (by decide +kernel) d42_5 h
theorem s42_8 {S : Nat × (Nat → Int32)} {L : List (Option Value)} {st : List Value} {n : Nat} {Q : xQ} {μ : xM} {N : Nat} {i : Int32} (hs : x_sh n = (100, N)) (hi : ¬ i < 0) (hN : i.toNatClampNeg = N) (hb : N ≤ 8000) (hn : n < x_NM) (h : x_V S 42 10 L (.ref n :: st) (x_nw μ n (fun _ => defaultValue (x_ty 100))) (n + 1) Q) : x_V S 42 8 L (.int i :: st) μ n Q := x_newa (kd := 100) d42_8 w50 rfl (by decide) hs hi hN (Nat.le_trans (Nat.mul_le_mul_right _ hb) (by decide)) hn h
theorem s42_10 {S : Nat × (Nat → Int32)} {L : List (Option Value)} {st : List Value} {n : Nat} {Q : xQ} {μ : xM} {a b : Nat} (hs : x_sh a = (8, 2)) (h : x_V S 42 13 L (st) (x_up μ a 0 (.ref b)) n Q) : x_V S 42 10 L (.ref b :: .ref a :: st) μ n Q := x_putF (i := 0) cf8 d42_10 (by decide) rfl rfl rfl w170 hs (fun _ => ⟨rfl, rfl⟩) h
theorem s42_13 {S : Nat × (Nat → Int32)} {L : List (Option Value)} {st : List Value} {n : Nat} {Q : xQ} {μ : xM}  (h : Q (.inl none) μ n) : x_V S 42 13 L ([]) μ n Q := x_return d42_13 rfl h
theorem mC_43 : mC 43 = prog_10_method_2_code := rfl
theorem d43_0 : decode (mC 43) 0 = .ok (.aload_n 0, 1) := by rw [mC_43]; decide +kernel
theorem d43_1 : decode (mC 43) 1 = .ok (.getfield 15, 3) := by rw [mC_43]; decide +kernel
theorem d43_4 : decode (mC 43) 4 = .ok (.sipush 512, 3) := by rw [mC_43]; decide +kernel
theorem d43_7 : decode (mC 43) 7 = .ok (.if_icmp .lt 4, 3) := by rw [mC_43]; decide +kernel
theorem d43_10 : decode (mC 43) 10 = .ok (.return_, 1) := by rw [mC_43]; decide +kernel
theorem d43_11 : decode (mC 43) 11 = .ok (.aload_n 0, 1) := by rw [mC_43]; decide +kernel
theorem d43_12 : decode (mC 43) 12 = .ok (.getfield 15, 3) := by rw [mC_43]; decide +kernel
theorem d43_15 : decode (mC 43) 15 = .ok (.iconst 5, 1) := by rw [mC_43]; decide +kernel
theorem d43_16 : decode (mC 43) 16 = .ok (.imul, 1) := by rw [mC_43]; decide +kernel
theorem d43_17 : decode (mC 43) 17 = .ok (.istore 6, 2) := by rw [mC_43]; decide +kernel
theorem d43_19 : decode (mC 43) 19 = .ok (.aload_n 0, 1) := by rw [mC_43]; decide +kernel
theorem d43_20 : decode (mC 43) 20 = .ok (.getfield 11, 3) := by rw [mC_43]; decide +kernel
theorem d43_23 : decode (mC 43) 23 = .ok (.iload 6, 2) := by rw [mC_43]; decide +kernel
theorem d43_25 : decode (mC 43) 25 = .ok (.iload_n 1, 1) := by rw [mC_43]; decide +kernel
theorem d43_26 : decode (mC 43) 26 = .ok (.iastore, 1) := by rw [mC_43]; decide +kernel
theorem d43_27 : decode (mC 43) 27 = .ok (.aload_n 0, 1) := by rw [mC_43]; decide +kernel
theorem d43_28 : decode (mC 43) 28 = .ok (.getfield 11, 3) := by rw [mC_43]; decide +kernel
theorem d43_31 : decode (mC 43) 31 = .ok (.iload 6, 2) := by rw [mC_43]; decide +kernel
theorem d43_33 : decode (mC 43) 33 = .ok (.iconst 1, 1) := by rw [mC_43]; decide +kernel
theorem d43_34 : decode (mC 43) 34 = .ok (.iadd, 1) := by rw [mC_43]; decide +kernel
theorem d43_35 : decode (mC 43) 35 = .ok (.iload_n 2, 1) := by rw [mC_43]; decide +kernel
theorem d43_36 : decode (mC 43) 36 = .ok (.iastore, 1) := by rw [mC_43]; decide +kernel
theorem d43_37 : decode (mC 43) 37 = .ok (.aload_n 0, 1) := by rw [mC_43]; decide +kernel
theorem d43_38 : decode (mC 43) 38 = .ok (.getfield 11, 3) := by rw [mC_43]; decide +kernel
theorem d43_41 : decode (mC 43) 41 = .ok (.iload 6, 2) := by rw [mC_43]; decide +kernel
theorem d43_43 : decode (mC 43) 43 = .ok (.iconst 2, 1) := by rw [mC_43]; decide +kernel
theorem d43_44 : decode (mC 43) 44 = .ok (.iadd, 1) := by rw [mC_43]; decide +kernel
theorem d43_45 : decode (mC 43) 45 = .ok (.iload_n 3, 1) := by rw [mC_43]; decide +kernel
theorem d43_46 : decode (mC 43) 46 = .ok (.iastore, 1) := by rw [mC_43]; decide +kernel
theorem d43_47 : decode (mC 43) 47 = .ok (.aload_n 0, 1) := by rw [mC_43]; decide +kernel
theorem d43_48 : decode (mC 43) 48 = .ok (.getfield 11, 3) := by rw [mC_43]; decide +kernel
theorem d43_51 : decode (mC 43) 51 = .ok (.iload 6, 2) := by rw [mC_43]; decide +kernel
theorem d43_53 : decode (mC 43) 53 = .ok (.iconst 3, 1) := by rw [mC_43]; decide +kernel
theorem d43_54 : decode (mC 43) 54 = .ok (.iadd, 1) := by rw [mC_43]; decide +kernel
theorem d43_55 : decode (mC 43) 55 = .ok (.iload 4, 2) := by rw [mC_43]; decide +kernel
theorem d43_57 : decode (mC 43) 57 = .ok (.iastore, 1) := by rw [mC_43]; decide +kernel
theorem d43_58 : decode (mC 43) 58 = .ok (.aload_n 0, 1) := by rw [mC_43]; decide +kernel
theorem d43_59 : decode (mC 43) 59 = .ok (.getfield 11, 3) := by rw [mC_43]; decide +kernel
theorem d43_62 : decode (mC 43) 62 = .ok (.iload 6, 2) := by rw [mC_43]; decide +kernel
theorem d43_64 : decode (mC 43) 64 = .ok (.iconst 4, 1) := by rw [mC_43]; decide +kernel
theorem d43_65 : decode (mC 43) 65 = .ok (.iadd, 1) := by rw [mC_43]; decide +kernel
theorem d43_66 : decode (mC 43) 66 = .ok (.iload 5, 2) := by rw [mC_43]; decide +kernel
theorem d43_68 : decode (mC 43) 68 = .ok (.iastore, 1) := by rw [mC_43]; decide +kernel
theorem d43_69 : decode (mC 43) 69 = .ok (.aload_n 0, 1) := by rw [mC_43]; decide +kernel
theorem d43_70 : decode (mC 43) 70 = .ok (.dup, 1) := by rw [mC_43]; decide +kernel
theorem d43_71 : decode (mC 43) 71 = .ok (.getfield 15, 3) := by rw [mC_43]; decide +kernel
theorem d43_74 : decode (mC 43) 74 = .ok (.iconst 1, 1) := by rw [mC_43]; decide +kernel
theorem d43_75 : decode (mC 43) 75 = .ok (.iadd, 1) := by rw [mC_43]; decide +kernel
theorem d43_76 : decode (mC 43) 76 = .ok (.putfield 15, 3) := by rw [mC_43]; decide +kernel
theorem d43_79 : decode (mC 43) 79 = .ok (.return_, 1) := by rw [mC_43]; decide +kernel
theorem s43_0 {S : Nat × (Nat → Int32)} {L : List (Option Value)} {st : List Value} {n : Nat} {Q : xQ} {μ : xM} {a : Nat} (hl : L[0]? = some (some (.ref a))) (h : x_V S 43 1 L (.ref a :: st) μ n Q) : x_V S 43 0 L (st) μ n Q := x_aload_n d43_0 hl h
theorem s43_0N {S : Nat × (Nat → Int32)} {L : List (Option Value)} {st : List Value} {n : Nat} {Q : xQ} {μ : xM} (hl : L[0]? = some (some .null)) (h : x_V S 43 1 L (.null :: st) μ n Q) : x_V S 43 0 L st μ n Q := x_aload_nN d43_0 hl h
theorem s43_1 {S : Nat × (Nat → Int32)} {L : List (Option Value)} {st : List Value} {n : Nat} {Q : xQ} {g : Nat → Nat → Int} {a : Nat} (hs : x_sh a = (8, 2)) (hp : x_pt a 1 = none) (ha : a ≠ x_out) (h : x_V S 43 4 L (.int (I (g a 1)) :: st) (x_vm g) n Q) : x_V S 43 1 L (.ref a :: st) (x_vm g) n Q := v_get (i := 1) cf8 d43_1 (by decide) w171 hs hp ha h
theorem s43_4 {S : Nat × (Nat → Int32)} {L : List (Option Value)} {st : List Value} {n : Nat} {Q : xQ} {μ : xM}  (h : x_V S 43 7 L (.int (I 512) :: st) μ n Q) : x_V S 43 4 L (st) μ n Q := x_sipush (by decide +kernel) d43_4 h
theorem s43_7 {S : Nat × (Nat → Int32)} {L : List (Option Value)} {st : List Value} {n : Nat} {Q : xQ} {μ : xM} {x y : Int} (hx : ib x) (hy : ib y) (kt : x < y → x_V S 43 11 L (st) μ n Q) (kf : y ≤ x → x_V S 43 10 L (st) μ n Q) : x_V S 43 7 L (.int (I y) :: .int (I x) :: st) μ n Q := v_icmp_lt d43_7 (by decide) hx hy kt kf
theorem s43_10 {S : Nat × (Nat → Int32)} {L : List (Option Value)} {st : List Value} {n : Nat} {Q : xQ} {μ : xM}  (h : Q (.inl none) μ n) : x_V S 43 10 L ([]) μ n Q := x_return d43_10 rfl h
theorem s43_11 {S : Nat × (Nat → Int32)} {L : List (Option Value)} {st : List Value} {n : Nat} {Q : xQ} {μ : xM} {a : Nat} (hl : L[0]? = some (some (.ref a))) (h : x_V S 43 12 L (.ref a :: st) μ n Q) : x_V S 43 11 L (st) μ n Q := x_aload_n d43_11 hl h
theorem s43_11N {S : Nat × (Nat → Int32)} {L : List (Option Value)} {st : List Value} {n : Nat} {Q : xQ} {μ : xM} (hl : L[0]? = some (some .null)) (h : x_V S 43 12 L (.null :: st) μ n Q) : x_V S 43 11 L st μ n Q := x_aload_nN d43_11 hl h
theorem s43_12 {S : Nat × (Nat → Int32)} {L : List (Option Value)} {st : List Value} {n : Nat} {Q : xQ} {g : Nat → Nat → Int} {a : Nat} (hs : x_sh a = (8, 2)) (hp : x_pt a 1 = none) (ha : a ≠ x_out) (h : x_V S 43 15 L (.int (I (g a 1)) :: st) (x_vm g) n Q) : x_V S 43 12 L (.ref a :: st) (x_vm g) n Q := v_get (i := 1) cf8 d43_12 (by decide) w171 hs hp ha h
theorem s43_15 {S : Nat × (Nat → Int32)} {L : List (Option Value)} {st : List Value} {n : Nat} {Q : xQ} {μ : xM}  (h : x_V S 43 16 L (.int (I 5) :: st) μ n Q) : x_V S 43 15 L (st) μ n Q := x_iconst (by decide +kernel) d43_15 h
theorem s43_16 {S : Nat × (Nat → Int32)} {L : List (Option Value)} {st : List Value} {n : Nat} {Q : xQ} {μ : xM} {x y : Int} (h : x_V S 43 17 L (.int (I (x * y)) :: st) μ n Q) : x_V S 43 16 L (.int (I y) :: .int (I x) :: st) μ n Q := v_imul d43_16 h
theorem s43_17 {S : Nat × (Nat → Int32)} {L : List (Option Value)} {st : List Value} {n : Nat} {Q : xQ} {μ : xM} {x : Int32} (h : x_V S 43 19 (L.set 6 (some (.int x))) (st) μ n Q) : x_V S 43 17 L (.int x :: st) μ n Q := x_istore d43_17 (by decide) h
theorem s43_19 {S : Nat × (Nat → Int32)} {L : List (Option Value)} {st : List Value} {n : Nat} {Q : xQ} {μ : xM} {a : Nat} (hl : L[0]? = some (some (.ref a))) (h : x_V S 43 20 L (.ref a :: st) μ n Q) : x_V S 43 19 L (st) μ n Q := x_aload_n d43_19 hl h
theorem s43_19N {S : Nat × (Nat → Int32)} {L : List (Option Value)} {st : List Value} {n : Nat} {Q : xQ} {μ : xM} (hl : L[0]? = some (some .null)) (h : x_V S 43 20 L (.null :: st) μ n Q) : x_V S 43 19 L st μ n Q := x_aload_nN d43_19 hl h
theorem s43_20 {S : Nat × (Nat → Int32)} {L : List (Option Value)} {st : List Value} {n : Nat} {Q : xQ} {g : Nat → Nat → Int} {a : Nat} {v : Value} (hs : x_sh a = (8, 2)) (hp : x_pt a 0 = some v) (h : x_V S 43 23 L (v :: st) (x_vm g) n Q) : x_V S 43 20 L (.ref a :: st) (x_vm g) n Q := v_getp (i := 0) cf8 d43_20 (by decide) w170 hs hp h
theorem s43_23 {S : Nat × (Nat → Int32)} {L : List (Option Value)} {st : List Value} {n : Nat} {Q : xQ} {μ : xM} {x : Int32} (hl : L[6]? = some (some (.int x))) (h : x_V S 43 25 L (.int x :: st) μ n Q) : x_V S 43 23 L (st) μ n Q := x_iload d43_23 hl h
theorem s43_25 {S : Nat × (Nat → Int32)} {L : List (Option Value)} {st : List Value} {n : Nat} {Q : xQ} {μ : xM} {x : Int32} (hl : L[1]? = some (some (.int x))) (h : x_V S 43 26 L (.int x :: st) μ n Q) : x_V S 43 25 L (st) μ n Q := x_iload_n d43_25 hl h
theorem s43_27 {S : Nat × (Nat → Int32)} {L : List (Option Value)} {st : List Value} {n : Nat} {Q : xQ} {μ : xM} {a : Nat} (hl : L[0]? = some (some (.ref a))) (h : x_V S 43 28 L (.ref a :: st) μ n Q) : x_V S 43 27 L (st) μ n Q := x_aload_n d43_27 hl h
theorem s43_27N {S : Nat × (Nat → Int32)} {L : List (Option Value)} {st : List Value} {n : Nat} {Q : xQ} {μ : xM} (hl : L[0]? = some (some .null)) (h : x_V S 43 28 L (.null :: st) μ n Q) : x_V S 43 27 L st μ n Q := x_aload_nN d43_27 hl h
theorem s43_28 {S : Nat × (Nat → Int32)} {L : List (Option Value)} {st : List Value} {n : Nat} {Q : xQ} {g : Nat → Nat → Int} {a : Nat} {v : Value} (hs : x_sh a = (8, 2)) (hp : x_pt a 0 = some v) (h : x_V S 43 31 L (v :: st) (x_vm g) n Q) : x_V S 43 28 L (.ref a :: st) (x_vm g) n Q := v_getp (i := 0) cf8 d43_28 (by decide) w170 hs hp h
theorem s43_31 {S : Nat × (Nat → Int32)} {L : List (Option Value)} {st : List Value} {n : Nat} {Q : xQ} {μ : xM} {x : Int32} (hl : L[6]? = some (some (.int x))) (h : x_V S 43 33 L (.int x :: st) μ n Q) : x_V S 43 31 L (st) μ n Q := x_iload d43_31 hl h
theorem s43_33 {S : Nat × (Nat → Int32)} {L : List (Option Value)} {st : List Value} {n : Nat} {Q : xQ} {μ : xM}  (h : x_V S 43 34 L (.int (I 1) :: st) μ n Q) : x_V S 43 33 L (st) μ n Q := x_iconst (by decide +kernel) d43_33 h
theorem s43_34 {S : Nat × (Nat → Int32)} {L : List (Option Value)} {st : List Value} {n : Nat} {Q : xQ} {μ : xM} {x y : Int} (h : x_V S 43 35 L (.int (I (x + y)) :: st) μ n Q) : x_V S 43 34 L (.int (I y) :: .int (I x) :: st) μ n Q := v_iadd d43_34 h
theorem s43_35 {S : Nat × (Nat → Int32)} {L : List (Option Value)} {st : List Value} {n : Nat} {Q : xQ} {μ : xM} {x : Int32} (hl : L[2]? = some (some (.int x))) (h : x_V S 43 36 L (.int x :: st) μ n Q) : x_V S 43 35 L (st) μ n Q := x_iload_n d43_35 hl h
theorem s43_37 {S : Nat × (Nat → Int32)} {L : List (Option Value)} {st : List Value} {n : Nat} {Q : xQ} {μ : xM} {a : Nat} (hl : L[0]? = some (some (.ref a))) (h : x_V S 43 38 L (.ref a :: st) μ n Q) : x_V S 43 37 L (st) μ n Q := x_aload_n d43_37 hl h
theorem s43_37N {S : Nat × (Nat → Int32)} {L : List (Option Value)} {st : List Value} {n : Nat} {Q : xQ} {μ : xM} (hl : L[0]? = some (some .null)) (h : x_V S 43 38 L (.null :: st) μ n Q) : x_V S 43 37 L st μ n Q := x_aload_nN d43_37 hl h
theorem s43_38 {S : Nat × (Nat → Int32)} {L : List (Option Value)} {st : List Value} {n : Nat} {Q : xQ} {g : Nat → Nat → Int} {a : Nat} {v : Value} (hs : x_sh a = (8, 2)) (hp : x_pt a 0 = some v) (h : x_V S 43 41 L (v :: st) (x_vm g) n Q) : x_V S 43 38 L (.ref a :: st) (x_vm g) n Q := v_getp (i := 0) cf8 d43_38 (by decide) w170 hs hp h
theorem s43_41 {S : Nat × (Nat → Int32)} {L : List (Option Value)} {st : List Value} {n : Nat} {Q : xQ} {μ : xM} {x : Int32} (hl : L[6]? = some (some (.int x))) (h : x_V S 43 43 L (.int x :: st) μ n Q) : x_V S 43 41 L (st) μ n Q := x_iload d43_41 hl h
theorem s43_43 {S : Nat × (Nat → Int32)} {L : List (Option Value)} {st : List Value} {n : Nat} {Q : xQ} {μ : xM}  (h : x_V S 43 44 L (.int (I 2) :: st) μ n Q) : x_V S 43 43 L (st) μ n Q := x_iconst (by decide +kernel) d43_43 h
theorem s43_44 {S : Nat × (Nat → Int32)} {L : List (Option Value)} {st : List Value} {n : Nat} {Q : xQ} {μ : xM} {x y : Int} (h : x_V S 43 45 L (.int (I (x + y)) :: st) μ n Q) : x_V S 43 44 L (.int (I y) :: .int (I x) :: st) μ n Q := v_iadd d43_44 h
theorem s43_45 {S : Nat × (Nat → Int32)} {L : List (Option Value)} {st : List Value} {n : Nat} {Q : xQ} {μ : xM} {x : Int32} (hl : L[3]? = some (some (.int x))) (h : x_V S 43 46 L (.int x :: st) μ n Q) : x_V S 43 45 L (st) μ n Q := x_iload_n d43_45 hl h
theorem s43_47 {S : Nat × (Nat → Int32)} {L : List (Option Value)} {st : List Value} {n : Nat} {Q : xQ} {μ : xM} {a : Nat} (hl : L[0]? = some (some (.ref a))) (h : x_V S 43 48 L (.ref a :: st) μ n Q) : x_V S 43 47 L (st) μ n Q := x_aload_n d43_47 hl h
theorem s43_47N {S : Nat × (Nat → Int32)} {L : List (Option Value)} {st : List Value} {n : Nat} {Q : xQ} {μ : xM} (hl : L[0]? = some (some .null)) (h : x_V S 43 48 L (.null :: st) μ n Q) : x_V S 43 47 L st μ n Q := x_aload_nN d43_47 hl h
theorem s43_48 {S : Nat × (Nat → Int32)} {L : List (Option Value)} {st : List Value} {n : Nat} {Q : xQ} {g : Nat → Nat → Int} {a : Nat} {v : Value} (hs : x_sh a = (8, 2)) (hp : x_pt a 0 = some v) (h : x_V S 43 51 L (v :: st) (x_vm g) n Q) : x_V S 43 48 L (.ref a :: st) (x_vm g) n Q := v_getp (i := 0) cf8 d43_48 (by decide) w170 hs hp h
theorem s43_51 {S : Nat × (Nat → Int32)} {L : List (Option Value)} {st : List Value} {n : Nat} {Q : xQ} {μ : xM} {x : Int32} (hl : L[6]? = some (some (.int x))) (h : x_V S 43 53 L (.int x :: st) μ n Q) : x_V S 43 51 L (st) μ n Q := x_iload d43_51 hl h
theorem s43_53 {S : Nat × (Nat → Int32)} {L : List (Option Value)} {st : List Value} {n : Nat} {Q : xQ} {μ : xM}  (h : x_V S 43 54 L (.int (I 3) :: st) μ n Q) : x_V S 43 53 L (st) μ n Q := x_iconst (by decide +kernel) d43_53 h
theorem s43_54 {S : Nat × (Nat → Int32)} {L : List (Option Value)} {st : List Value} {n : Nat} {Q : xQ} {μ : xM} {x y : Int} (h : x_V S 43 55 L (.int (I (x + y)) :: st) μ n Q) : x_V S 43 54 L (.int (I y) :: .int (I x) :: st) μ n Q := v_iadd d43_54 h
theorem s43_55 {S : Nat × (Nat → Int32)} {L : List (Option Value)} {st : List Value} {n : Nat} {Q : xQ} {μ : xM} {x : Int32} (hl : L[4]? = some (some (.int x))) (h : x_V S 43 57 L (.int x :: st) μ n Q) : x_V S 43 55 L (st) μ n Q := x_iload d43_55 hl h
theorem s43_58 {S : Nat × (Nat → Int32)} {L : List (Option Value)} {st : List Value} {n : Nat} {Q : xQ} {μ : xM} {a : Nat} (hl : L[0]? = some (some (.ref a))) (h : x_V S 43 59 L (.ref a :: st) μ n Q) : x_V S 43 58 L (st) μ n Q := x_aload_n d43_58 hl h
theorem s43_58N {S : Nat × (Nat → Int32)} {L : List (Option Value)} {st : List Value} {n : Nat} {Q : xQ} {μ : xM} (hl : L[0]? = some (some .null)) (h : x_V S 43 59 L (.null :: st) μ n Q) : x_V S 43 58 L st μ n Q := x_aload_nN d43_58 hl h
theorem s43_59 {S : Nat × (Nat → Int32)} {L : List (Option Value)} {st : List Value} {n : Nat} {Q : xQ} {g : Nat → Nat → Int} {a : Nat} {v : Value} (hs : x_sh a = (8, 2)) (hp : x_pt a 0 = some v) (h : x_V S 43 62 L (v :: st) (x_vm g) n Q) : x_V S 43 59 L (.ref a :: st) (x_vm g) n Q := v_getp (i := 0) cf8 d43_59 (by decide) w170 hs hp h
theorem s43_62 {S : Nat × (Nat → Int32)} {L : List (Option Value)} {st : List Value} {n : Nat} {Q : xQ} {μ : xM} {x : Int32} (hl : L[6]? = some (some (.int x))) (h : x_V S 43 64 L (.int x :: st) μ n Q) : x_V S 43 62 L (st) μ n Q := x_iload d43_62 hl h
theorem s43_64 {S : Nat × (Nat → Int32)} {L : List (Option Value)} {st : List Value} {n : Nat} {Q : xQ} {μ : xM}  (h : x_V S 43 65 L (.int (I 4) :: st) μ n Q) : x_V S 43 64 L (st) μ n Q := x_iconst (by decide +kernel) d43_64 h
theorem s43_65 {S : Nat × (Nat → Int32)} {L : List (Option Value)} {st : List Value} {n : Nat} {Q : xQ} {μ : xM} {x y : Int} (h : x_V S 43 66 L (.int (I (x + y)) :: st) μ n Q) : x_V S 43 65 L (.int (I y) :: .int (I x) :: st) μ n Q := v_iadd d43_65 h
theorem s43_66 {S : Nat × (Nat → Int32)} {L : List (Option Value)} {st : List Value} {n : Nat} {Q : xQ} {μ : xM} {x : Int32} (hl : L[5]? = some (some (.int x))) (h : x_V S 43 68 L (.int x :: st) μ n Q) : x_V S 43 66 L (st) μ n Q := x_iload d43_66 hl h
theorem s43_69 {S : Nat × (Nat → Int32)} {L : List (Option Value)} {st : List Value} {n : Nat} {Q : xQ} {μ : xM} {a : Nat} (hl : L[0]? = some (some (.ref a))) (h : x_V S 43 70 L (.ref a :: st) μ n Q) : x_V S 43 69 L (st) μ n Q := x_aload_n d43_69 hl h
theorem s43_69N {S : Nat × (Nat → Int32)} {L : List (Option Value)} {st : List Value} {n : Nat} {Q : xQ} {μ : xM} (hl : L[0]? = some (some .null)) (h : x_V S 43 70 L (.null :: st) μ n Q) : x_V S 43 69 L st μ n Q := x_aload_nN d43_69 hl h
theorem s43_70 {S : Nat × (Nat → Int32)} {L : List (Option Value)} {st : List Value} {n : Nat} {Q : xQ} {μ : xM} {v : Value} (hc : v.category = 1) (h : x_V S 43 71 L (v :: v :: st) μ n Q) : x_V S 43 70 L (v :: st) μ n Q := x_dup hc d43_70 h
theorem s43_71 {S : Nat × (Nat → Int32)} {L : List (Option Value)} {st : List Value} {n : Nat} {Q : xQ} {g : Nat → Nat → Int} {a : Nat} (hs : x_sh a = (8, 2)) (hp : x_pt a 1 = none) (ha : a ≠ x_out) (h : x_V S 43 74 L (.int (I (g a 1)) :: st) (x_vm g) n Q) : x_V S 43 71 L (.ref a :: st) (x_vm g) n Q := v_get (i := 1) cf8 d43_71 (by decide) w171 hs hp ha h
theorem s43_74 {S : Nat × (Nat → Int32)} {L : List (Option Value)} {st : List Value} {n : Nat} {Q : xQ} {μ : xM}  (h : x_V S 43 75 L (.int (I 1) :: st) μ n Q) : x_V S 43 74 L (st) μ n Q := x_iconst (by decide +kernel) d43_74 h
theorem s43_75 {S : Nat × (Nat → Int32)} {L : List (Option Value)} {st : List Value} {n : Nat} {Q : xQ} {μ : xM} {x y : Int} (h : x_V S 43 76 L (.int (I (x + y)) :: st) μ n Q) : x_V S 43 75 L (.int (I y) :: .int (I x) :: st) μ n Q := v_iadd d43_75 h
theorem s43_76 {S : Nat × (Nat → Int32)} {L : List (Option Value)} {st : List Value} {n : Nat} {Q : xQ} {g : Nat → Nat → Int} {a : Nat} {x : Int} (hs : x_sh a = (8, 2)) (hp : x_pt a 1 = none) (ha : a ≠ x_out) (h : x_V S 43 79 L (st) (x_vm (x_uf g a 1 x)) n Q) : x_V S 43 76 L (.int (I x) :: .ref a :: st) (x_vm g) n Q := v_put (i := 1) cf8 d43_76 (by decide) rfl w171 hs rfl hp ha h
theorem s43_79 {S : Nat × (Nat → Int32)} {L : List (Option Value)} {st : List Value} {n : Nat} {Q : xQ} {μ : xM}  (h : Q (.inl none) μ n) : x_V S 43 79 L ([]) μ n Q := x_return d43_79 rfl h
theorem mC_44 : mC 44 = prog_10_method_3_code := rfl
theorem d44_0 : decode (mC 44) 0 = .ok (.iload_n 1, 1) := by rw [mC_44]; decide +kernel
theorem d44_1 : decode (mC 44) 1 = .ok (.ifCond .lt 22, 3) := by rw [mC_44]; decide +kernel
theorem d44_4 : decode (mC 44) 4 = .ok (.iload_n 1, 1) := by rw [mC_44]; decide +kernel
theorem d44_5 : decode (mC 44) 5 = .ok (.aload_n 0, 1) := by rw [mC_44]; decide +kernel
theorem d44_6 : decode (mC 44) 6 = .ok (.getfield 15, 3) := by rw [mC_44]; decide +kernel
theorem d44_9 : decode (mC 44) 9 = .ok (.if_icmp .ge 14, 3) := by rw [mC_44]; decide +kernel
theorem d44_12 : decode (mC 44) 12 = .ok (.aload_n 0, 1) := by rw [mC_44]; decide +kernel
theorem d44_13 : decode (mC 44) 13 = .ok (.getfield 11, 3) := by rw [mC_44]; decide +kernel
theorem d44_16 : decode (mC 44) 16 = .ok (.iload_n 1, 1) := by rw [mC_44]; decide +kernel
theorem d44_17 : decode (mC 44) 17 = .ok (.iconst 5, 1) := by rw [mC_44]; decide +kernel
theorem d44_18 : decode (mC 44) 18 = .ok (.imul, 1) := by rw [mC_44]; decide +kernel
theorem d44_19 : decode (mC 44) 19 = .ok (.iaload, 1) := by rw [mC_44]; decide +kernel
theorem d44_20 : decode (mC 44) 20 = .ok (.goto 4, 3) := by rw [mC_44]; decide +kernel
theorem d44_23 : decode (mC 44) 23 = .ok (.iconst (-1), 1) := by rw [mC_44]; decide +kernel
theorem d44_24 : decode (mC 44) 24 = .ok (.ireturn, 1) := by rw [mC_44]; decide +kernel
theorem s44_0 {S : Nat × (Nat → Int32)} {L : List (Option Value)} {st : List Value} {n : Nat} {Q : xQ} {μ : xM} {x : Int32} (hl : L[1]? = some (some (.int x))) (h : x_V S 44 1 L (.int x :: st) μ n Q) : x_V S 44 0 L (st) μ n Q := x_iload_n d44_0 hl h
theorem s44_1 {S : Nat × (Nat → Int32)} {L : List (Option Value)} {st : List Value} {n : Nat} {Q : xQ} {μ : xM} {x : Int} (hx : ib x) (kt : x < 0 → x_V S 44 23 L (st) μ n Q) (kf : 0 ≤ x → x_V S 44 4 L (st) μ n Q) : x_V S 44 1 L (.int (I x) :: st) μ n Q := v_if_lt d44_1 (by decide) hx kt kf
theorem s44_4 {S : Nat × (Nat → Int32)} {L : List (Option Value)} {st : List Value} {n : Nat} {Q : xQ} {μ : xM} {x : Int32} (hl : L[1]? = some (some (.int x))) (h : x_V S 44 5 L (.int x :: st) μ n Q) : x_V S 44 4 L (st) μ n Q := x_iload_n d44_4 hl h
theorem s44_5 {S : Nat × (Nat → Int32)} {L : List (Option Value)} {st : List Value} {n : Nat} {Q : xQ} {μ : xM} {a : Nat} (hl : L[0]? = some (some (.ref a))) (h : x_V S 44 6 L (.ref a :: st) μ n Q) : x_V S 44 5 L (st) μ n Q := x_aload_n d44_5 hl h
theorem s44_5N {S : Nat × (Nat → Int32)} {L : List (Option Value)} {st : List Value} {n : Nat} {Q : xQ} {μ : xM} (hl : L[0]? = some (some .null)) (h : x_V S 44 6 L (.null :: st) μ n Q) : x_V S 44 5 L st μ n Q := x_aload_nN d44_5 hl h
theorem s44_6 {S : Nat × (Nat → Int32)} {L : List (Option Value)} {st : List Value} {n : Nat} {Q : xQ} {g : Nat → Nat → Int} {a : Nat} (hs : x_sh a = (8, 2)) (hp : x_pt a 1 = none) (ha : a ≠ x_out) (h : x_V S 44 9 L (.int (I (g a 1)) :: st) (x_vm g) n Q) : x_V S 44 6 L (.ref a :: st) (x_vm g) n Q := v_get (i := 1) cf8 d44_6 (by decide) w171 hs hp ha h
theorem s44_9 {S : Nat × (Nat → Int32)} {L : List (Option Value)} {st : List Value} {n : Nat} {Q : xQ} {μ : xM} {x y : Int} (hx : ib x) (hy : ib y) (kt : y ≤ x → x_V S 44 23 L (st) μ n Q) (kf : x < y → x_V S 44 12 L (st) μ n Q) : x_V S 44 9 L (.int (I y) :: .int (I x) :: st) μ n Q := v_icmp_ge d44_9 (by decide) hx hy kt kf
theorem s44_12 {S : Nat × (Nat → Int32)} {L : List (Option Value)} {st : List Value} {n : Nat} {Q : xQ} {μ : xM} {a : Nat} (hl : L[0]? = some (some (.ref a))) (h : x_V S 44 13 L (.ref a :: st) μ n Q) : x_V S 44 12 L (st) μ n Q := x_aload_n d44_12 hl h
theorem s44_12N {S : Nat × (Nat → Int32)} {L : List (Option Value)} {st : List Value} {n : Nat} {Q : xQ} {μ : xM} (hl : L[0]? = some (some .null)) (h : x_V S 44 13 L (.null :: st) μ n Q) : x_V S 44 12 L st μ n Q := x_aload_nN d44_12 hl h
theorem s44_13 {S : Nat × (Nat → Int32)} {L : List (Option Value)} {st : List Value} {n : Nat} {Q : xQ} {g : Nat → Nat → Int} {a : Nat} {v : Value} (hs : x_sh a = (8, 2)) (hp : x_pt a 0 = some v) (h : x_V S 44 16 L (v :: st) (x_vm g) n Q) : x_V S 44 13 L (.ref a :: st) (x_vm g) n Q := v_getp (i := 0) cf8 d44_13 (by decide) w170 hs hp h
theorem s44_16 {S : Nat × (Nat → Int32)} {L : List (Option Value)} {st : List Value} {n : Nat} {Q : xQ} {μ : xM} {x : Int32} (hl : L[1]? = some (some (.int x))) (h : x_V S 44 17 L (.int x :: st) μ n Q) : x_V S 44 16 L (st) μ n Q := x_iload_n d44_16 hl h
theorem s44_17 {S : Nat × (Nat → Int32)} {L : List (Option Value)} {st : List Value} {n : Nat} {Q : xQ} {μ : xM}  (h : x_V S 44 18 L (.int (I 5) :: st) μ n Q) : x_V S 44 17 L (st) μ n Q := x_iconst (by decide +kernel) d44_17 h
theorem s44_18 {S : Nat × (Nat → Int32)} {L : List (Option Value)} {st : List Value} {n : Nat} {Q : xQ} {μ : xM} {x y : Int} (h : x_V S 44 19 L (.int (I (x * y)) :: st) μ n Q) : x_V S 44 18 L (.int (I y) :: .int (I x) :: st) μ n Q := v_imul d44_18 h
theorem s44_20 {S : Nat × (Nat → Int32)} {L : List (Option Value)} {st : List Value} {n : Nat} {Q : xQ} {μ : xM}  (h : x_V S 44 24 L (st) μ n Q) : x_V S 44 20 L (st) μ n Q := x_goto (tgt := 24) (by decide) d44_20 h
theorem s44_23 {S : Nat × (Nat → Int32)} {L : List (Option Value)} {st : List Value} {n : Nat} {Q : xQ} {μ : xM}  (h : x_V S 44 24 L (.int (I (-1)) :: st) μ n Q) : x_V S 44 23 L (st) μ n Q := x_iconst (by decide +kernel) d44_23 h
theorem s44_24 {S : Nat × (Nat → Int32)} {L : List (Option Value)} {st : List Value} {n : Nat} {Q : xQ} {μ : xM} {x : Int32} (h : Q (.inl (some (.int x))) μ n) : x_V S 44 24 L (.int x :: []) μ n Q := x_ireturn d44_24 rfl rfl h
theorem mC_45 : mC 45 = prog_10_method_4_code := rfl
theorem d45_0 : decode (mC 45) 0 = .ok (.iload_n 1, 1) := by rw [mC_45]; decide +kernel
theorem d45_1 : decode (mC 45) 1 = .ok (.ifCond .lt 51, 3) := by rw [mC_45]; decide +kernel
theorem d45_4 : decode (mC 45) 4 = .ok (.iload_n 1, 1) := by rw [mC_45]; decide +kernel
theorem d45_5 : decode (mC 45) 5 = .ok (.aload_n 0, 1) := by rw [mC_45]; decide +kernel
theorem d45_6 : decode (mC 45) 6 = .ok (.getfield 15, 3) := by rw [mC_45]; decide +kernel
theorem d45_9 : decode (mC 45) 9 = .ok (.if_icmp .ge 43, 3) := by rw [mC_45]; decide +kernel
theorem d45_12 : decode (mC 45) 12 = .ok (.iload_n 1, 1) := by rw [mC_45]; decide +kernel
theorem d45_13 : decode (mC 45) 13 = .ok (.iconst 5, 1) := by rw [mC_45]; decide +kernel
theorem d45_14 : decode (mC 45) 14 = .ok (.imul, 1) := by rw [mC_45]; decide +kernel
theorem d45_15 : decode (mC 45) 15 = .ok (.istore_n 3, 1) := by rw [mC_45]; decide +kernel
theorem d45_16 : decode (mC 45) 16 = .ok (.aload_n 2, 1) := by rw [mC_45]; decide +kernel
theorem d45_17 : decode (mC 45) 17 = .ok (.aload_n 0, 1) := by rw [mC_45]; decide +kernel
theorem d45_18 : decode (mC 45) 18 = .ok (.getfield 11, 3) := by rw [mC_45]; decide +kernel
theorem d45_21 : decode (mC 45) 21 = .ok (.iload_n 3, 1) := by rw [mC_45]; decide +kernel
theorem d45_22 : decode (mC 45) 22 = .ok (.iconst 1, 1) := by rw [mC_45]; decide +kernel
theorem d45_23 : decode (mC 45) 23 = .ok (.iadd, 1) := by rw [mC_45]; decide +kernel
theorem d45_24 : decode (mC 45) 24 = .ok (.iaload, 1) := by rw [mC_45]; decide +kernel
theorem d45_25 : decode (mC 45) 25 = .ok (.aload_n 0, 1) := by rw [mC_45]; decide +kernel
theorem d45_26 : decode (mC 45) 26 = .ok (.getfield 11, 3) := by rw [mC_45]; decide +kernel
theorem d45_29 : decode (mC 45) 29 = .ok (.iload_n 3, 1) := by rw [mC_45]; decide +kernel
theorem d45_30 : decode (mC 45) 30 = .ok (.iconst 2, 1) := by rw [mC_45]; decide +kernel
theorem d45_31 : decode (mC 45) 31 = .ok (.iadd, 1) := by rw [mC_45]; decide +kernel
theorem d45_32 : decode (mC 45) 32 = .ok (.iaload, 1) := by rw [mC_45]; decide +kernel
theorem d45_33 : decode (mC 45) 33 = .ok (.aload_n 0, 1) := by rw [mC_45]; decide +kernel
theorem d45_34 : decode (mC 45) 34 = .ok (.getfield 11, 3) := by rw [mC_45]; decide +kernel
theorem d45_37 : decode (mC 45) 37 = .ok (.iload_n 3, 1) := by rw [mC_45]; decide +kernel
theorem d45_38 : decode (mC 45) 38 = .ok (.iconst 3, 1) := by rw [mC_45]; decide +kernel
theorem d45_39 : decode (mC 45) 39 = .ok (.iadd, 1) := by rw [mC_45]; decide +kernel
theorem d45_40 : decode (mC 45) 40 = .ok (.iaload, 1) := by rw [mC_45]; decide +kernel
theorem d45_41 : decode (mC 45) 41 = .ok (.aload_n 0, 1) := by rw [mC_45]; decide +kernel
theorem d45_42 : decode (mC 45) 42 = .ok (.getfield 11, 3) := by rw [mC_45]; decide +kernel
theorem d45_45 : decode (mC 45) 45 = .ok (.iload_n 3, 1) := by rw [mC_45]; decide +kernel
theorem d45_46 : decode (mC 45) 46 = .ok (.iconst 4, 1) := by rw [mC_45]; decide +kernel
theorem d45_47 : decode (mC 45) 47 = .ok (.iadd, 1) := by rw [mC_45]; decide +kernel
theorem d45_48 : decode (mC 45) 48 = .ok (.iaload, 1) := by rw [mC_45]; decide +kernel
theorem d45_49 : decode (mC 45) 49 = .ok (.invokevirtual 19, 3) := by rw [mC_45]; decide +kernel
theorem d45_52 : decode (mC 45) 52 = .ok (.return_, 1) := by rw [mC_45]; decide +kernel
theorem s45_0 {S : Nat × (Nat → Int32)} {L : List (Option Value)} {st : List Value} {n : Nat} {Q : xQ} {μ : xM} {x : Int32} (hl : L[1]? = some (some (.int x))) (h : x_V S 45 1 L (.int x :: st) μ n Q) : x_V S 45 0 L (st) μ n Q := x_iload_n d45_0 hl h
theorem s45_1 {S : Nat × (Nat → Int32)} {L : List (Option Value)} {st : List Value} {n : Nat} {Q : xQ} {μ : xM} {x : Int} (hx : ib x) (kt : x < 0 → x_V S 45 52 L (st) μ n Q) (kf : 0 ≤ x → x_V S 45 4 L (st) μ n Q) : x_V S 45 1 L (.int (I x) :: st) μ n Q := v_if_lt d45_1 (by decide) hx kt kf
theorem s45_4 {S : Nat × (Nat → Int32)} {L : List (Option Value)} {st : List Value} {n : Nat} {Q : xQ} {μ : xM} {x : Int32} (hl : L[1]? = some (some (.int x))) (h : x_V S 45 5 L (.int x :: st) μ n Q) : x_V S 45 4 L (st) μ n Q := x_iload_n d45_4 hl h
theorem s45_5 {S : Nat × (Nat → Int32)} {L : List (Option Value)} {st : List Value} {n : Nat} {Q : xQ} {μ : xM} {a : Nat} (hl : L[0]? = some (some (.ref a))) (h : x_V S 45 6 L (.ref a :: st) μ n Q) : x_V S 45 5 L (st) μ n Q := x_aload_n d45_5 hl h
theorem s45_5N {S : Nat × (Nat → Int32)} {L : List (Option Value)} {st : List Value} {n : Nat} {Q : xQ} {μ : xM} (hl : L[0]? = some (some .null)) (h : x_V S 45 6 L (.null :: st) μ n Q) : x_V S 45 5 L st μ n Q := x_aload_nN d45_5 hl h
theorem s45_6 {S : Nat × (Nat → Int32)} {L : List (Option Value)} {st : List Value} {n : Nat} {Q : xQ} {g : Nat → Nat → Int} {a : Nat} (hs : x_sh a = (8, 2)) (hp : x_pt a 1 = none) (ha : a ≠ x_out) (h : x_V S 45 9 L (.int (I (g a 1)) :: st) (x_vm g) n Q) : x_V S 45 6 L (.ref a :: st) (x_vm g) n Q := v_get (i := 1) cf8 d45_6 (by decide) w171 hs hp ha h
theorem s45_9 {S : Nat × (Nat → Int32)} {L : List (Option Value)} {st : List Value} {n : Nat} {Q : xQ} {μ : xM} {x y : Int} (hx : ib x) (hy : ib y) (kt : y ≤ x → x_V S 45 52 L (st) μ n Q) (kf : x < y → x_V S 45 12 L (st) μ n Q) : x_V S 45 9 L (.int (I y) :: .int (I x) :: st) μ n Q := v_icmp_ge d45_9 (by decide) hx hy kt kf
theorem s45_12 {S : Nat × (Nat → Int32)} {L : List (Option Value)} {st : List Value} {n : Nat} {Q : xQ} {μ : xM} {x : Int32} (hl : L[1]? = some (some (.int x))) (h : x_V S 45 13 L (.int x :: st) μ n Q) : x_V S 45 12 L (st) μ n Q := x_iload_n d45_12 hl h
theorem s45_13 {S : Nat × (Nat → Int32)} {L : List (Option Value)} {st : List Value} {n : Nat} {Q : xQ} {μ : xM}  (h : x_V S 45 14 L (.int (I 5) :: st) μ n Q) : x_V S 45 13 L (st) μ n Q := x_iconst (by decide +kernel) d45_13 h
theorem s45_14 {S : Nat × (Nat → Int32)} {L : List (Option Value)} {st : List Value} {n : Nat} {Q : xQ} {μ : xM} {x y : Int} (h : x_V S 45 15 L (.int (I (x * y)) :: st) μ n Q) : x_V S 45 14 L (.int (I y) :: .int (I x) :: st) μ n Q := v_imul d45_14 h
theorem s45_15 {S : Nat × (Nat → Int32)} {L : List (Option Value)} {st : List Value} {n : Nat} {Q : xQ} {μ : xM} {x : Int32} (h : x_V S 45 16 (L.set 3 (some (.int x))) (st) μ n Q) : x_V S 45 15 L (.int x :: st) μ n Q := x_istore_n d45_15 (by decide) h
theorem s45_16 {S : Nat × (Nat → Int32)} {L : List (Option Value)} {st : List Value} {n : Nat} {Q : xQ} {μ : xM} {a : Nat} (hl : L[2]? = some (some (.ref a))) (h : x_V S 45 17 L (.ref a :: st) μ n Q) : x_V S 45 16 L (st) μ n Q := x_aload_n d45_16 hl h
theorem s45_16N {S : Nat × (Nat → Int32)} {L : List (Option Value)} {st : List Value} {n : Nat} {Q : xQ} {μ : xM} (hl : L[2]? = some (some .null)) (h : x_V S 45 17 L (.null :: st) μ n Q) : x_V S 45 16 L st μ n Q := x_aload_nN d45_16 hl h
theorem s45_17 {S : Nat × (Nat → Int32)} {L : List (Option Value)} {st : List Value} {n : Nat} {Q : xQ} {μ : xM} {a : Nat} (hl : L[0]? = some (some (.ref a))) (h : x_V S 45 18 L (.ref a :: st) μ n Q) : x_V S 45 17 L (st) μ n Q := x_aload_n d45_17 hl h
theorem s45_17N {S : Nat × (Nat → Int32)} {L : List (Option Value)} {st : List Value} {n : Nat} {Q : xQ} {μ : xM} (hl : L[0]? = some (some .null)) (h : x_V S 45 18 L (.null :: st) μ n Q) : x_V S 45 17 L st μ n Q := x_aload_nN d45_17 hl h
theorem s45_18 {S : Nat × (Nat → Int32)} {L : List (Option Value)} {st : List Value} {n : Nat} {Q : xQ} {g : Nat → Nat → Int} {a : Nat} {v : Value} (hs : x_sh a = (8, 2)) (hp : x_pt a 0 = some v) (h : x_V S 45 21 L (v :: st) (x_vm g) n Q) : x_V S 45 18 L (.ref a :: st) (x_vm g) n Q := v_getp (i := 0) cf8 d45_18 (by decide) w170 hs hp h
theorem s45_21 {S : Nat × (Nat → Int32)} {L : List (Option Value)} {st : List Value} {n : Nat} {Q : xQ} {μ : xM} {x : Int32} (hl : L[3]? = some (some (.int x))) (h : x_V S 45 22 L (.int x :: st) μ n Q) : x_V S 45 21 L (st) μ n Q := x_iload_n d45_21 hl h
theorem s45_22 {S : Nat × (Nat → Int32)} {L : List (Option Value)} {st : List Value} {n : Nat} {Q : xQ} {μ : xM}  (h : x_V S 45 23 L (.int (I 1) :: st) μ n Q) : x_V S 45 22 L (st) μ n Q := x_iconst (by decide +kernel) d45_22 h
theorem s45_23 {S : Nat × (Nat → Int32)} {L : List (Option Value)} {st : List Value} {n : Nat} {Q : xQ} {μ : xM} {x y : Int} (h : x_V S 45 24 L (.int (I (x + y)) :: st) μ n Q) : x_V S 45 23 L (.int (I y) :: .int (I x) :: st) μ n Q := v_iadd d45_23 h
theorem s45_25 {S : Nat × (Nat → Int32)} {L : List (Option Value)} {st : List Value} {n : Nat} {Q : xQ} {μ : xM} {a : Nat} (hl : L[0]? = some (some (.ref a))) (h : x_V S 45 26 L (.ref a :: st) μ n Q) : x_V S 45 25 L (st) μ n Q := x_aload_n d45_25 hl h
theorem s45_25N {S : Nat × (Nat → Int32)} {L : List (Option Value)} {st : List Value} {n : Nat} {Q : xQ} {μ : xM} (hl : L[0]? = some (some .null)) (h : x_V S 45 26 L (.null :: st) μ n Q) : x_V S 45 25 L st μ n Q := x_aload_nN d45_25 hl h
theorem s45_26 {S : Nat × (Nat → Int32)} {L : List (Option Value)} {st : List Value} {n : Nat} {Q : xQ} {g : Nat → Nat → Int} {a : Nat} {v : Value} (hs : x_sh a = (8, 2)) (hp : x_pt a 0 = some v) (h : x_V S 45 29 L (v :: st) (x_vm g) n Q) : x_V S 45 26 L (.ref a :: st) (x_vm g) n Q := v_getp (i := 0) cf8 d45_26 (by decide) w170 hs hp h
theorem s45_29 {S : Nat × (Nat → Int32)} {L : List (Option Value)} {st : List Value} {n : Nat} {Q : xQ} {μ : xM} {x : Int32} (hl : L[3]? = some (some (.int x))) (h : x_V S 45 30 L (.int x :: st) μ n Q) : x_V S 45 29 L (st) μ n Q := x_iload_n d45_29 hl h
theorem s45_30 {S : Nat × (Nat → Int32)} {L : List (Option Value)} {st : List Value} {n : Nat} {Q : xQ} {μ : xM}  (h : x_V S 45 31 L (.int (I 2) :: st) μ n Q) : x_V S 45 30 L (st) μ n Q := x_iconst (by decide +kernel) d45_30 h
theorem s45_31 {S : Nat × (Nat → Int32)} {L : List (Option Value)} {st : List Value} {n : Nat} {Q : xQ} {μ : xM} {x y : Int} (h : x_V S 45 32 L (.int (I (x + y)) :: st) μ n Q) : x_V S 45 31 L (.int (I y) :: .int (I x) :: st) μ n Q := v_iadd d45_31 h
theorem s45_33 {S : Nat × (Nat → Int32)} {L : List (Option Value)} {st : List Value} {n : Nat} {Q : xQ} {μ : xM} {a : Nat} (hl : L[0]? = some (some (.ref a))) (h : x_V S 45 34 L (.ref a :: st) μ n Q) : x_V S 45 33 L (st) μ n Q := x_aload_n d45_33 hl h
theorem s45_33N {S : Nat × (Nat → Int32)} {L : List (Option Value)} {st : List Value} {n : Nat} {Q : xQ} {μ : xM} (hl : L[0]? = some (some .null)) (h : x_V S 45 34 L (.null :: st) μ n Q) : x_V S 45 33 L st μ n Q := x_aload_nN d45_33 hl h
theorem s45_34 {S : Nat × (Nat → Int32)} {L : List (Option Value)} {st : List Value} {n : Nat} {Q : xQ} {g : Nat → Nat → Int} {a : Nat} {v : Value} (hs : x_sh a = (8, 2)) (hp : x_pt a 0 = some v) (h : x_V S 45 37 L (v :: st) (x_vm g) n Q) : x_V S 45 34 L (.ref a :: st) (x_vm g) n Q := v_getp (i := 0) cf8 d45_34 (by decide) w170 hs hp h
theorem s45_37 {S : Nat × (Nat → Int32)} {L : List (Option Value)} {st : List Value} {n : Nat} {Q : xQ} {μ : xM} {x : Int32} (hl : L[3]? = some (some (.int x))) (h : x_V S 45 38 L (.int x :: st) μ n Q) : x_V S 45 37 L (st) μ n Q := x_iload_n d45_37 hl h
theorem s45_38 {S : Nat × (Nat → Int32)} {L : List (Option Value)} {st : List Value} {n : Nat} {Q : xQ} {μ : xM}  (h : x_V S 45 39 L (.int (I 3) :: st) μ n Q) : x_V S 45 38 L (st) μ n Q := x_iconst (by decide +kernel) d45_38 h
theorem s45_39 {S : Nat × (Nat → Int32)} {L : List (Option Value)} {st : List Value} {n : Nat} {Q : xQ} {μ : xM} {x y : Int} (h : x_V S 45 40 L (.int (I (x + y)) :: st) μ n Q) : x_V S 45 39 L (.int (I y) :: .int (I x) :: st) μ n Q := v_iadd d45_39 h
theorem s45_41 {S : Nat × (Nat → Int32)} {L : List (Option Value)} {st : List Value} {n : Nat} {Q : xQ} {μ : xM} {a : Nat} (hl : L[0]? = some (some (.ref a))) (h : x_V S 45 42 L (.ref a :: st) μ n Q) : x_V S 45 41 L (st) μ n Q := x_aload_n d45_41 hl h
theorem s45_41N {S : Nat × (Nat → Int32)} {L : List (Option Value)} {st : List Value} {n : Nat} {Q : xQ} {μ : xM} (hl : L[0]? = some (some .null)) (h : x_V S 45 42 L (.null :: st) μ n Q) : x_V S 45 41 L st μ n Q := x_aload_nN d45_41 hl h
theorem s45_42 {S : Nat × (Nat → Int32)} {L : List (Option Value)} {st : List Value} {n : Nat} {Q : xQ} {g : Nat → Nat → Int} {a : Nat} {v : Value} (hs : x_sh a = (8, 2)) (hp : x_pt a 0 = some v) (h : x_V S 45 45 L (v :: st) (x_vm g) n Q) : x_V S 45 42 L (.ref a :: st) (x_vm g) n Q := v_getp (i := 0) cf8 d45_42 (by decide) w170 hs hp h
theorem s45_45 {S : Nat × (Nat → Int32)} {L : List (Option Value)} {st : List Value} {n : Nat} {Q : xQ} {μ : xM} {x : Int32} (hl : L[3]? = some (some (.int x))) (h : x_V S 45 46 L (.int x :: st) μ n Q) : x_V S 45 45 L (st) μ n Q := x_iload_n d45_45 hl h
theorem s45_46 {S : Nat × (Nat → Int32)} {L : List (Option Value)} {st : List Value} {n : Nat} {Q : xQ} {μ : xM}  (h : x_V S 45 47 L (.int (I 4) :: st) μ n Q) : x_V S 45 46 L (st) μ n Q := x_iconst (by decide +kernel) d45_46 h
theorem s45_47 {S : Nat × (Nat → Int32)} {L : List (Option Value)} {st : List Value} {n : Nat} {Q : xQ} {μ : xM} {x y : Int} (h : x_V S 45 48 L (.int (I (x + y)) :: st) μ n Q) : x_V S 45 47 L (.int (I y) :: .int (I x) :: st) μ n Q := v_iadd d45_47 h
theorem s45_49 {S : Nat × (Nat → Int32)} {L : List (Option Value)} {st : List Value} {n : Nat} {Q : xQ} {μ : xM} {x0 : Int32} {x1 : Int32} {x2 : Int32} {x3 : Int32} {a : Nat} (hs : x_sh a = (3, 4)) (hst : st.length ≤ 4) (h : x_V S 23 0 [some (.ref a), some (.int x0), some (.int x1), some (.int x2), some (.int x3)] [] μ n (x_bk S 45 49 L st Q)) : x_V S 45 49 L (.int x3 :: .int x2 :: .int x1 :: .int x0 :: .ref a :: st) μ n Q := x_callV (k' := 23) (as := [.int x0, .int x1, .int x2, .int x3]) (na := 4) d45_49 ⟨w268, by decide +kernel, by decide, by decide, by decide, by decide, by decide⟩ cf3 w570 w266 w267 (by decide +kernel) rfl hs (fun v hv => by
    simp only [List.mem_cons, List.not_mem_nil, or_false] at hv
    rcases hv with rfl | rfl | rfl | rfl <;> first | rfl | assumption) hst h
theorem s45_52 {S : Nat × (Nat → Int32)} {L : List (Option Value)} {st : List Value} {n : Nat} {Q : xQ} {μ : xM}  (h : Q (.inl none) μ n) : x_V S 45 52 L ([]) μ n Q := x_return d45_52 rfl h
