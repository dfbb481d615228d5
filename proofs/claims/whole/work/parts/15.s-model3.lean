/-! 15.s-model3: decode rows and step rows of the reference; laid by a program. -/
theorem mC_109 : mC 109 = prog_12_method_27_code := rfl
theorem d109_0 : decode (mC 109) 0 = .ok (.iload_n 1, 1) := by rw [mC_109]; decide +kernel
theorem d109_1 : decode (mC 109) 1 = .ok (.aload_n 0, 1) := by rw [mC_109]; decide +kernel
theorem d109_2 : decode (mC 109) 2 = .ok (.getfield 149, 3) := by rw [mC_109]; decide +kernel
theorem d109_5 : decode (mC 109) 5 = .ok (.if_icmp .ge 44, 3) := by rw [mC_109]; decide +kernel
theorem d109_8 : decode (mC 109) 8 = .ok (.aload_n 0, 1) := by rw [mC_109]; decide +kernel
theorem d109_9 : decode (mC 109) 9 = .ok (.getfield 13, 3) := by rw [mC_109]; decide +kernel
theorem d109_12 : decode (mC 109) 12 = .ok (.iload_n 1, 1) := by rw [mC_109]; decide +kernel
theorem d109_13 : decode (mC 109) 13 = .ok (.iaload, 1) := by rw [mC_109]; decide +kernel
theorem d109_14 : decode (mC 109) 14 = .ok (.iload_n 2, 1) := by rw [mC_109]; decide +kernel
theorem d109_15 : decode (mC 109) 15 = .ok (.if_icmp .ne 34, 3) := by rw [mC_109]; decide +kernel
theorem d109_18 : decode (mC 109) 18 = .ok (.aload_n 0, 1) := by rw [mC_109]; decide +kernel
theorem d109_19 : decode (mC 109) 19 = .ok (.getfield 19, 3) := by rw [mC_109]; decide +kernel
theorem d109_22 : decode (mC 109) 22 = .ok (.iload_n 1, 1) := by rw [mC_109]; decide +kernel
theorem d109_23 : decode (mC 109) 23 = .ok (.iaload, 1) := by rw [mC_109]; decide +kernel
theorem d109_24 : decode (mC 109) 24 = .ok (.aload_n 0, 1) := by rw [mC_109]; decide +kernel
theorem d109_25 : decode (mC 109) 25 = .ok (.getfield 16, 3) := by rw [mC_109]; decide +kernel
theorem d109_28 : decode (mC 109) 28 = .ok (.iload_n 1, 1) := by rw [mC_109]; decide +kernel
theorem d109_29 : decode (mC 109) 29 = .ok (.iaload, 1) := by rw [mC_109]; decide +kernel
theorem d109_30 : decode (mC 109) 30 = .ok (.isub, 1) := by rw [mC_109]; decide +kernel
theorem d109_31 : decode (mC 109) 31 = .ok (.iconst 1, 1) := by rw [mC_109]; decide +kernel
theorem d109_32 : decode (mC 109) 32 = .ok (.if_icmp .ne 17, 3) := by rw [mC_109]; decide +kernel
theorem d109_35 : decode (mC 109) 35 = .ok (.aload_n 0, 1) := by rw [mC_109]; decide +kernel
theorem d109_36 : decode (mC 109) 36 = .ok (.getfield 7, 3) := by rw [mC_109]; decide +kernel
theorem d109_39 : decode (mC 109) 39 = .ok (.aload_n 0, 1) := by rw [mC_109]; decide +kernel
theorem d109_40 : decode (mC 109) 40 = .ok (.getfield 16, 3) := by rw [mC_109]; decide +kernel
theorem d109_43 : decode (mC 109) 43 = .ok (.iload_n 1, 1) := by rw [mC_109]; decide +kernel
theorem d109_44 : decode (mC 109) 44 = .ok (.iaload, 1) := by rw [mC_109]; decide +kernel
theorem d109_45 : decode (mC 109) 45 = .ok (.iaload, 1) := by rw [mC_109]; decide +kernel
theorem d109_46 : decode (mC 109) 46 = .ok (.goto 4, 3) := by rw [mC_109]; decide +kernel
theorem d109_49 : decode (mC 109) 49 = .ok (.iconst (-1), 1) := by rw [mC_109]; decide +kernel
theorem d109_50 : decode (mC 109) 50 = .ok (.ireturn, 1) := by rw [mC_109]; decide +kernel
theorem s109_0 {S : Nat × (Nat → Int32)} {L : List (Option Value)} {st : List Value} {n : Nat} {Q : xQ} {μ : xM} {x : Int32} (hl : L[1]? = some (some (.int x))) (h : x_V S 109 1 L (.int x :: st) μ n Q) : x_V S 109 0 L (st) μ n Q := x_iload_n d109_0 hl h
theorem s109_1 {S : Nat × (Nat → Int32)} {L : List (Option Value)} {st : List Value} {n : Nat} {Q : xQ} {μ : xM} {a : Nat} (hl : L[0]? = some (some (.ref a))) (h : x_V S 109 2 L (.ref a :: st) μ n Q) : x_V S 109 1 L (st) μ n Q := x_aload_n d109_1 hl h
theorem s109_1N {S : Nat × (Nat → Int32)} {L : List (Option Value)} {st : List Value} {n : Nat} {Q : xQ} {μ : xM} (hl : L[0]? = some (some .null)) (h : x_V S 109 2 L (.null :: st) μ n Q) : x_V S 109 1 L st μ n Q := x_aload_nN d109_1 hl h
theorem s109_2 {S : Nat × (Nat → Int32)} {L : List (Option Value)} {st : List Value} {n : Nat} {Q : xQ} {g : Nat → Nat → Int} {a : Nat} (hs : x_sh a = (9, 39)) (hp : x_pt a 4 = none) (ha : a ≠ x_out) (h : x_V S 109 5 L (.int (I (g a 4)) :: st) (x_vm g) n Q) : x_V S 109 2 L (.ref a :: st) (x_vm g) n Q := v_get (i := 4) cf9 d109_2 (by decide) w699 hs hp ha h
theorem s109_5 {S : Nat × (Nat → Int32)} {L : List (Option Value)} {st : List Value} {n : Nat} {Q : xQ} {μ : xM} {x y : Int} (hx : ib x) (hy : ib y) (kt : y ≤ x → x_V S 109 49 L (st) μ n Q) (kf : x < y → x_V S 109 8 L (st) μ n Q) : x_V S 109 5 L (.int (I y) :: .int (I x) :: st) μ n Q := v_icmp_ge d109_5 (by decide) hx hy kt kf
theorem s109_8 {S : Nat × (Nat → Int32)} {L : List (Option Value)} {st : List Value} {n : Nat} {Q : xQ} {μ : xM} {a : Nat} (hl : L[0]? = some (some (.ref a))) (h : x_V S 109 9 L (.ref a :: st) μ n Q) : x_V S 109 8 L (st) μ n Q := x_aload_n d109_8 hl h
theorem s109_8N {S : Nat × (Nat → Int32)} {L : List (Option Value)} {st : List Value} {n : Nat} {Q : xQ} {μ : xM} (hl : L[0]? = some (some .null)) (h : x_V S 109 9 L (.null :: st) μ n Q) : x_V S 109 8 L st μ n Q := x_aload_nN d109_8 hl h
theorem s109_9 {S : Nat × (Nat → Int32)} {L : List (Option Value)} {st : List Value} {n : Nat} {Q : xQ} {g : Nat → Nat → Int} {a : Nat} {v : Value} (hs : x_sh a = (9, 39)) (hp : x_pt a 5 = some v) (h : x_V S 109 12 L (v :: st) (x_vm g) n Q) : x_V S 109 9 L (.ref a :: st) (x_vm g) n Q := v_getp (i := 5) cf9 d109_9 (by decide) w700 hs hp h
theorem s109_12 {S : Nat × (Nat → Int32)} {L : List (Option Value)} {st : List Value} {n : Nat} {Q : xQ} {μ : xM} {x : Int32} (hl : L[1]? = some (some (.int x))) (h : x_V S 109 13 L (.int x :: st) μ n Q) : x_V S 109 12 L (st) μ n Q := x_iload_n d109_12 hl h
theorem s109_14 {S : Nat × (Nat → Int32)} {L : List (Option Value)} {st : List Value} {n : Nat} {Q : xQ} {μ : xM} {x : Int32} (hl : L[2]? = some (some (.int x))) (h : x_V S 109 15 L (.int x :: st) μ n Q) : x_V S 109 14 L (st) μ n Q := x_iload_n d109_14 hl h
theorem s109_15 {S : Nat × (Nat → Int32)} {L : List (Option Value)} {st : List Value} {n : Nat} {Q : xQ} {μ : xM} {x y : Int} (hx : ib x) (hy : ib y) (kt : x ≠ y → x_V S 109 49 L (st) μ n Q) (kf : x = y → x_V S 109 18 L (st) μ n Q) : x_V S 109 15 L (.int (I y) :: .int (I x) :: st) μ n Q := v_icmp_ne d109_15 (by decide) hx hy kt kf
theorem s109_18 {S : Nat × (Nat → Int32)} {L : List (Option Value)} {st : List Value} {n : Nat} {Q : xQ} {μ : xM} {a : Nat} (hl : L[0]? = some (some (.ref a))) (h : x_V S 109 19 L (.ref a :: st) μ n Q) : x_V S 109 18 L (st) μ n Q := x_aload_n d109_18 hl h
theorem s109_18N {S : Nat × (Nat → Int32)} {L : List (Option Value)} {st : List Value} {n : Nat} {Q : xQ} {μ : xM} (hl : L[0]? = some (some .null)) (h : x_V S 109 19 L (.null :: st) μ n Q) : x_V S 109 18 L st μ n Q := x_aload_nN d109_18 hl h
theorem s109_19 {S : Nat × (Nat → Int32)} {L : List (Option Value)} {st : List Value} {n : Nat} {Q : xQ} {g : Nat → Nat → Int} {a : Nat} {v : Value} (hs : x_sh a = (9, 39)) (hp : x_pt a 7 = some v) (h : x_V S 109 22 L (v :: st) (x_vm g) n Q) : x_V S 109 19 L (.ref a :: st) (x_vm g) n Q := v_getp (i := 7) cf9 d109_19 (by decide) w702 hs hp h
theorem s109_22 {S : Nat × (Nat → Int32)} {L : List (Option Value)} {st : List Value} {n : Nat} {Q : xQ} {μ : xM} {x : Int32} (hl : L[1]? = some (some (.int x))) (h : x_V S 109 23 L (.int x :: st) μ n Q) : x_V S 109 22 L (st) μ n Q := x_iload_n d109_22 hl h
theorem s109_24 {S : Nat × (Nat → Int32)} {L : List (Option Value)} {st : List Value} {n : Nat} {Q : xQ} {μ : xM} {a : Nat} (hl : L[0]? = some (some (.ref a))) (h : x_V S 109 25 L (.ref a :: st) μ n Q) : x_V S 109 24 L (st) μ n Q := x_aload_n d109_24 hl h
theorem s109_24N {S : Nat × (Nat → Int32)} {L : List (Option Value)} {st : List Value} {n : Nat} {Q : xQ} {μ : xM} (hl : L[0]? = some (some .null)) (h : x_V S 109 25 L (.null :: st) μ n Q) : x_V S 109 24 L st μ n Q := x_aload_nN d109_24 hl h
theorem s109_25 {S : Nat × (Nat → Int32)} {L : List (Option Value)} {st : List Value} {n : Nat} {Q : xQ} {g : Nat → Nat → Int} {a : Nat} {v : Value} (hs : x_sh a = (9, 39)) (hp : x_pt a 6 = some v) (h : x_V S 109 28 L (v :: st) (x_vm g) n Q) : x_V S 109 25 L (.ref a :: st) (x_vm g) n Q := v_getp (i := 6) cf9 d109_25 (by decide) w701 hs hp h
theorem s109_28 {S : Nat × (Nat → Int32)} {L : List (Option Value)} {st : List Value} {n : Nat} {Q : xQ} {μ : xM} {x : Int32} (hl : L[1]? = some (some (.int x))) (h : x_V S 109 29 L (.int x :: st) μ n Q) : x_V S 109 28 L (st) μ n Q := x_iload_n d109_28 hl h
theorem s109_30 {S : Nat × (Nat → Int32)} {L : List (Option Value)} {st : List Value} {n : Nat} {Q : xQ} {μ : xM} {x y : Int} (h : x_V S 109 31 L (.int (I (x - y)) :: st) μ n Q) : x_V S 109 30 L (.int (I y) :: .int (I x) :: st) μ n Q := v_isub d109_30 h
theorem s109_31 {S : Nat × (Nat → Int32)} {L : List (Option Value)} {st : List Value} {n : Nat} {Q : xQ} {μ : xM}  (h : x_V S 109 32 L (.int (I 1) :: st) μ n Q) : x_V S 109 31 L (st) μ n Q := x_iconst (by decide +kernel) d109_31 h
theorem s109_32 {S : Nat × (Nat → Int32)} {L : List (Option Value)} {st : List Value} {n : Nat} {Q : xQ} {μ : xM} {x y : Int} (hx : ib x) (hy : ib y) (kt : x ≠ y → x_V S 109 49 L (st) μ n Q) (kf : x = y → x_V S 109 35 L (st) μ n Q) : x_V S 109 32 L (.int (I y) :: .int (I x) :: st) μ n Q := v_icmp_ne d109_32 (by decide) hx hy kt kf
theorem s109_35 {S : Nat × (Nat → Int32)} {L : List (Option Value)} {st : List Value} {n : Nat} {Q : xQ} {μ : xM} {a : Nat} (hl : L[0]? = some (some (.ref a))) (h : x_V S 109 36 L (.ref a :: st) μ n Q) : x_V S 109 35 L (st) μ n Q := x_aload_n d109_35 hl h
theorem s109_35N {S : Nat × (Nat → Int32)} {L : List (Option Value)} {st : List Value} {n : Nat} {Q : xQ} {μ : xM} (hl : L[0]? = some (some .null)) (h : x_V S 109 36 L (.null :: st) μ n Q) : x_V S 109 35 L st μ n Q := x_aload_nN d109_35 hl h
theorem s109_36 {S : Nat × (Nat → Int32)} {L : List (Option Value)} {st : List Value} {n : Nat} {Q : xQ} {g : Nat → Nat → Int} {a : Nat} {v : Value} (hs : x_sh a = (9, 39)) (hp : x_pt a 3 = some v) (h : x_V S 109 39 L (v :: st) (x_vm g) n Q) : x_V S 109 36 L (.ref a :: st) (x_vm g) n Q := v_getp (i := 3) cf9 d109_36 (by decide) w698 hs hp h
theorem s109_39 {S : Nat × (Nat → Int32)} {L : List (Option Value)} {st : List Value} {n : Nat} {Q : xQ} {μ : xM} {a : Nat} (hl : L[0]? = some (some (.ref a))) (h : x_V S 109 40 L (.ref a :: st) μ n Q) : x_V S 109 39 L (st) μ n Q := x_aload_n d109_39 hl h
theorem s109_39N {S : Nat × (Nat → Int32)} {L : List (Option Value)} {st : List Value} {n : Nat} {Q : xQ} {μ : xM} (hl : L[0]? = some (some .null)) (h : x_V S 109 40 L (.null :: st) μ n Q) : x_V S 109 39 L st μ n Q := x_aload_nN d109_39 hl h
theorem s109_40 {S : Nat × (Nat → Int32)} {L : List (Option Value)} {st : List Value} {n : Nat} {Q : xQ} {g : Nat → Nat → Int} {a : Nat} {v : Value} (hs : x_sh a = (9, 39)) (hp : x_pt a 6 = some v) (h : x_V S 109 43 L (v :: st) (x_vm g) n Q) : x_V S 109 40 L (.ref a :: st) (x_vm g) n Q := v_getp (i := 6) cf9 d109_40 (by decide) w701 hs hp h
theorem s109_43 {S : Nat × (Nat → Int32)} {L : List (Option Value)} {st : List Value} {n : Nat} {Q : xQ} {μ : xM} {x : Int32} (hl : L[1]? = some (some (.int x))) (h : x_V S 109 44 L (.int x :: st) μ n Q) : x_V S 109 43 L (st) μ n Q := x_iload_n d109_43 hl h
theorem s109_46 {S : Nat × (Nat → Int32)} {L : List (Option Value)} {st : List Value} {n : Nat} {Q : xQ} {μ : xM}  (h : x_V S 109 50 L (st) μ n Q) : x_V S 109 46 L (st) μ n Q := x_goto (tgt := 50) (by decide) d109_46 h
theorem s109_49 {S : Nat × (Nat → Int32)} {L : List (Option Value)} {st : List Value} {n : Nat} {Q : xQ} {μ : xM}  (h : x_V S 109 50 L (.int (I (-1)) :: st) μ n Q) : x_V S 109 49 L (st) μ n Q := x_iconst (by decide +kernel) d109_49 h
theorem s109_50 {S : Nat × (Nat → Int32)} {L : List (Option Value)} {st : List Value} {n : Nat} {Q : xQ} {μ : xM} {x : Int32} (h : Q (.inl (some (.int x))) μ n) : x_V S 109 50 L (.int x :: []) μ n Q := x_ireturn d109_50 rfl rfl h
theorem mC_110 : mC 110 = prog_12_method_28_code := rfl
theorem d110_0 : decode (mC 110) 0 = .ok (.aload_n 0, 1) := by rw [mC_110]; decide +kernel
theorem d110_1 : decode (mC 110) 1 = .ok (.getfield 149, 3) := by rw [mC_110]; decide +kernel
theorem d110_4 : decode (mC 110) 4 = .ok (.iconst 1, 1) := by rw [mC_110]; decide +kernel
theorem d110_5 : decode (mC 110) 5 = .ok (.isub, 1) := by rw [mC_110]; decide +kernel
theorem d110_6 : decode (mC 110) 6 = .ok (.istore_n 1, 1) := by rw [mC_110]; decide +kernel
theorem d110_7 : decode (mC 110) 7 = .ok (.iload_n 1, 1) := by rw [mC_110]; decide +kernel
theorem d110_8 : decode (mC 110) 8 = .ok (.iconst 4, 1) := by rw [mC_110]; decide +kernel
theorem d110_9 : decode (mC 110) 9 = .ok (.if_icmp .lt 41, 3) := by rw [mC_110]; decide +kernel
theorem d110_12 : decode (mC 110) 12 = .ok (.aload_n 0, 1) := by rw [mC_110]; decide +kernel
theorem d110_13 : decode (mC 110) 13 = .ok (.getfield 13, 3) := by rw [mC_110]; decide +kernel
theorem d110_16 : decode (mC 110) 16 = .ok (.iload_n 1, 1) := by rw [mC_110]; decide +kernel
theorem d110_17 : decode (mC 110) 17 = .ok (.iaload, 1) := by rw [mC_110]; decide +kernel
theorem d110_18 : decode (mC 110) 18 = .ok (.bipush 10, 2) := by rw [mC_110]; decide +kernel
theorem d110_20 : decode (mC 110) 20 = .ok (.if_icmp .ne 30, 3) := by rw [mC_110]; decide +kernel
theorem d110_23 : decode (mC 110) 23 = .ok (.aload_n 0, 1) := by rw [mC_110]; decide +kernel
theorem d110_24 : decode (mC 110) 24 = .ok (.getfield 19, 3) := by rw [mC_110]; decide +kernel
theorem d110_27 : decode (mC 110) 27 = .ok (.iload_n 1, 1) := by rw [mC_110]; decide +kernel
theorem d110_28 : decode (mC 110) 28 = .ok (.iaload, 1) := by rw [mC_110]; decide +kernel
theorem d110_29 : decode (mC 110) 29 = .ok (.aload_n 0, 1) := by rw [mC_110]; decide +kernel
theorem d110_30 : decode (mC 110) 30 = .ok (.getfield 16, 3) := by rw [mC_110]; decide +kernel
theorem d110_33 : decode (mC 110) 33 = .ok (.iload_n 1, 1) := by rw [mC_110]; decide +kernel
theorem d110_34 : decode (mC 110) 34 = .ok (.iaload, 1) := by rw [mC_110]; decide +kernel
theorem d110_35 : decode (mC 110) 35 = .ok (.isub, 1) := by rw [mC_110]; decide +kernel
theorem d110_36 : decode (mC 110) 36 = .ok (.iconst 3, 1) := by rw [mC_110]; decide +kernel
theorem d110_37 : decode (mC 110) 37 = .ok (.if_icmp .ne 13, 3) := by rw [mC_110]; decide +kernel
theorem d110_40 : decode (mC 110) 40 = .ok (.aload_n 0, 1) := by rw [mC_110]; decide +kernel
theorem d110_41 : decode (mC 110) 41 = .ok (.iload_n 1, 1) := by rw [mC_110]; decide +kernel
theorem d110_42 : decode (mC 110) 42 = .ok (.bipush 10, 2) := by rw [mC_110]; decide +kernel
theorem d110_44 : decode (mC 110) 44 = .ok (.invokevirtual 155, 3) := by rw [mC_110]; decide +kernel
theorem d110_47 : decode (mC 110) 47 = .ok (.ifCond .ge 5, 3) := by rw [mC_110]; decide +kernel
theorem d110_50 : decode (mC 110) 50 = .ok (.iconst 0, 1) := by rw [mC_110]; decide +kernel
theorem d110_51 : decode (mC 110) 51 = .ok (.ireturn, 1) := by rw [mC_110]; decide +kernel
theorem d110_52 : decode (mC 110) 52 = .ok (.aload_n 0, 1) := by rw [mC_110]; decide +kernel
theorem d110_53 : decode (mC 110) 53 = .ok (.getfield 16, 3) := by rw [mC_110]; decide +kernel
theorem d110_56 : decode (mC 110) 56 = .ok (.iload_n 1, 1) := by rw [mC_110]; decide +kernel
theorem d110_57 : decode (mC 110) 57 = .ok (.iaload, 1) := by rw [mC_110]; decide +kernel
theorem d110_58 : decode (mC 110) 58 = .ok (.iconst 3, 1) := by rw [mC_110]; decide +kernel
theorem d110_59 : decode (mC 110) 59 = .ok (.isub, 1) := by rw [mC_110]; decide +kernel
theorem d110_60 : decode (mC 110) 60 = .ok (.istore_n 2, 1) := by rw [mC_110]; decide +kernel
theorem d110_61 : decode (mC 110) 61 = .ok (.iconst 0, 1) := by rw [mC_110]; decide +kernel
theorem d110_62 : decode (mC 110) 62 = .ok (.istore_n 3, 1) := by rw [mC_110]; decide +kernel
theorem d110_63 : decode (mC 110) 63 = .ok (.iconst 0, 1) := by rw [mC_110]; decide +kernel
theorem d110_64 : decode (mC 110) 64 = .ok (.istore 4, 2) := by rw [mC_110]; decide +kernel
theorem d110_66 : decode (mC 110) 66 = .ok (.iload 4, 2) := by rw [mC_110]; decide +kernel
theorem d110_68 : decode (mC 110) 68 = .ok (.iload_n 2, 1) := by rw [mC_110]; decide +kernel
theorem d110_69 : decode (mC 110) 69 = .ok (.if_icmp .ge 19, 3) := by rw [mC_110]; decide +kernel
theorem d110_72 : decode (mC 110) 72 = .ok (.iload_n 3, 1) := by rw [mC_110]; decide +kernel
theorem d110_73 : decode (mC 110) 73 = .ok (.aload_n 0, 1) := by rw [mC_110]; decide +kernel
theorem d110_74 : decode (mC 110) 74 = .ok (.getfield 7, 3) := by rw [mC_110]; decide +kernel
theorem d110_77 : decode (mC 110) 77 = .ok (.iload 4, 2) := by rw [mC_110]; decide +kernel
theorem d110_79 : decode (mC 110) 79 = .ok (.iaload, 1) := by rw [mC_110]; decide +kernel
theorem d110_80 : decode (mC 110) 80 = .ok (.iadd, 1) := by rw [mC_110]; decide +kernel
theorem d110_81 : decode (mC 110) 81 = .ok (.istore_n 3, 1) := by rw [mC_110]; decide +kernel
theorem d110_82 : decode (mC 110) 82 = .ok (.iinc 4 1, 3) := by rw [mC_110]; decide +kernel
theorem d110_85 : decode (mC 110) 85 = .ok (.goto (-19), 3) := by rw [mC_110]; decide +kernel
theorem d110_88 : decode (mC 110) 88 = .ok (.aload_n 0, 1) := by rw [mC_110]; decide +kernel
theorem d110_89 : decode (mC 110) 89 = .ok (.iload_n 1, 1) := by rw [mC_110]; decide +kernel
theorem d110_90 : decode (mC 110) 90 = .ok (.bipush 10, 2) := by rw [mC_110]; decide +kernel
theorem d110_92 : decode (mC 110) 92 = .ok (.invokevirtual 155, 3) := by rw [mC_110]; decide +kernel
theorem d110_95 : decode (mC 110) 95 = .ok (.iload_n 3, 1) := by rw [mC_110]; decide +kernel
theorem d110_96 : decode (mC 110) 96 = .ok (.sipush 256, 3) := by rw [mC_110]; decide +kernel
theorem d110_99 : decode (mC 110) 99 = .ok (.irem, 1) := by rw [mC_110]; decide +kernel
theorem d110_100 : decode (mC 110) 100 = .ok (.if_icmp .ne 27, 3) := by rw [mC_110]; decide +kernel
theorem d110_103 : decode (mC 110) 103 = .ok (.aload_n 0, 1) := by rw [mC_110]; decide +kernel
theorem d110_104 : decode (mC 110) 104 = .ok (.iconst 1, 1) := by rw [mC_110]; decide +kernel
theorem d110_105 : decode (mC 110) 105 = .ok (.bipush 9, 2) := by rw [mC_110]; decide +kernel
theorem d110_107 : decode (mC 110) 107 = .ok (.invokevirtual 155, 3) := by rw [mC_110]; decide +kernel
theorem d110_110 : decode (mC 110) 110 = .ok (.iload_n 2, 1) := by rw [mC_110]; decide +kernel
theorem d110_111 : decode (mC 110) 111 = .ok (.aload_n 0, 1) := by rw [mC_110]; decide +kernel
theorem d110_112 : decode (mC 110) 112 = .ok (.getfield 19, 3) := by rw [mC_110]; decide +kernel
theorem d110_115 : decode (mC 110) 115 = .ok (.iconst 1, 1) := by rw [mC_110]; decide +kernel
theorem d110_116 : decode (mC 110) 116 = .ok (.iaload, 1) := by rw [mC_110]; decide +kernel
theorem d110_117 : decode (mC 110) 117 = .ok (.isub, 1) := by rw [mC_110]; decide +kernel
theorem d110_118 : decode (mC 110) 118 = .ok (.iconst 1, 1) := by rw [mC_110]; decide +kernel
theorem d110_119 : decode (mC 110) 119 = .ok (.isub, 1) := by rw [mC_110]; decide +kernel
theorem d110_120 : decode (mC 110) 120 = .ok (.if_icmp .ne 7, 3) := by rw [mC_110]; decide +kernel
theorem d110_123 : decode (mC 110) 123 = .ok (.iconst 1, 1) := by rw [mC_110]; decide +kernel
theorem d110_124 : decode (mC 110) 124 = .ok (.goto 4, 3) := by rw [mC_110]; decide +kernel
theorem d110_127 : decode (mC 110) 127 = .ok (.iconst 0, 1) := by rw [mC_110]; decide +kernel
theorem d110_128 : decode (mC 110) 128 = .ok (.ireturn, 1) := by rw [mC_110]; decide +kernel
theorem s110_0 {S : Nat × (Nat → Int32)} {L : List (Option Value)} {st : List Value} {n : Nat} {Q : xQ} {μ : xM} {a : Nat} (hl : L[0]? = some (some (.ref a))) (h : x_V S 110 1 L (.ref a :: st) μ n Q) : x_V S 110 0 L (st) μ n Q := x_aload_n d110_0 hl h
theorem s110_0N {S : Nat × (Nat → Int32)} {L : List (Option Value)} {st : List Value} {n : Nat} {Q : xQ} {μ : xM} (hl : L[0]? = some (some .null)) (h : x_V S 110 1 L (.null :: st) μ n Q) : x_V S 110 0 L st μ n Q := x_aload_nN d110_0 hl h
theorem s110_1 {S : Nat × (Nat → Int32)} {L : List (Option Value)} {st : List Value} {n : Nat} {Q : xQ} {g : Nat → Nat → Int} {a : Nat} (hs : x_sh a = (9, 39)) (hp : x_pt a 4 = none) (ha : a ≠ x_out) (h : x_V S 110 4 L (.int (I (g a 4)) :: st) (x_vm g) n Q) : x_V S 110 1 L (.ref a :: st) (x_vm g) n Q := v_get (i := 4) cf9 d110_1 (by decide) w699 hs hp ha h
theorem s110_4 {S : Nat × (Nat → Int32)} {L : List (Option Value)} {st : List Value} {n : Nat} {Q : xQ} {μ : xM}  (h : x_V S 110 5 L (.int (I 1) :: st) μ n Q) : x_V S 110 4 L (st) μ n Q := x_iconst (by decide +kernel) d110_4 h
theorem s110_5 {S : Nat × (Nat → Int32)} {L : List (Option Value)} {st : List Value} {n : Nat} {Q : xQ} {μ : xM} {x y : Int} (h : x_V S 110 6 L (.int (I (x - y)) :: st) μ n Q) : x_V S 110 5 L (.int (I y) :: .int (I x) :: st) μ n Q := v_isub d110_5 h
theorem s110_6 {S : Nat × (Nat → Int32)} {L : List (Option Value)} {st : List Value} {n : Nat} {Q : xQ} {μ : xM} {x : Int32} (h : x_V S 110 7 (L.set 1 (some (.int x))) (st) μ n Q) : x_V S 110 6 L (.int x :: st) μ n Q := x_istore_n d110_6 (by decide) h
theorem s110_7 {S : Nat × (Nat → Int32)} {L : List (Option Value)} {st : List Value} {n : Nat} {Q : xQ} {μ : xM} {x : Int32} (hl : L[1]? = some (some (.int x))) (h : x_V S 110 8 L (.int x :: st) μ n Q) : x_V S 110 7 L (st) μ n Q := x_iload_n d110_7 hl h
theorem s110_8 {S : Nat × (Nat → Int32)} {L : List (Option Value)} {st : List Value} {n : Nat} {Q : xQ} {μ : xM}  (h : x_V S 110 9 L (.int (I 4) :: st) μ n Q) : x_V S 110 8 L (st) μ n Q := x_iconst (by decide +kernel) d110_8 h
theorem s110_9 {S : Nat × (Nat → Int32)} {L : List (Option Value)} {st : List Value} {n : Nat} {Q : xQ} {μ : xM} {x y : Int} (hx : ib x) (hy : ib y) (kt : x < y → x_V S 110 50 L (st) μ n Q) (kf : y ≤ x → x_V S 110 12 L (st) μ n Q) : x_V S 110 9 L (.int (I y) :: .int (I x) :: st) μ n Q := v_icmp_lt d110_9 (by decide) hx hy kt kf
theorem s110_12 {S : Nat × (Nat → Int32)} {L : List (Option Value)} {st : List Value} {n : Nat} {Q : xQ} {μ : xM} {a : Nat} (hl : L[0]? = some (some (.ref a))) (h : x_V S 110 13 L (.ref a :: st) μ n Q) : x_V S 110 12 L (st) μ n Q := x_aload_n d110_12 hl h
theorem s110_12N {S : Nat × (Nat → Int32)} {L : List (Option Value)} {st : List Value} {n : Nat} {Q : xQ} {μ : xM} (hl : L[0]? = some (some .null)) (h : x_V S 110 13 L (.null :: st) μ n Q) : x_V S 110 12 L st μ n Q := x_aload_nN d110_12 hl h
theorem s110_13 {S : Nat × (Nat → Int32)} {L : List (Option Value)} {st : List Value} {n : Nat} {Q : xQ} {g : Nat → Nat → Int} {a : Nat} {v : Value} (hs : x_sh a = (9, 39)) (hp : x_pt a 5 = some v) (h : x_V S 110 16 L (v :: st) (x_vm g) n Q) : x_V S 110 13 L (.ref a :: st) (x_vm g) n Q := v_getp (i := 5) cf9 d110_13 (by decide) w700 hs hp h
theorem s110_16 {S : Nat × (Nat → Int32)} {L : List (Option Value)} {st : List Value} {n : Nat} {Q : xQ} {μ : xM} {x : Int32} (hl : L[1]? = some (some (.int x))) (h : x_V S 110 17 L (.int x :: st) μ n Q) : x_V S 110 16 L (st) μ n Q := x_iload_n d110_16 hl h
theorem s110_18 {S : Nat × (Nat → Int32)} {L : List (Option Value)} {st : List Value} {n : Nat} {Q : xQ} {μ : xM}  (h : x_V S 110 20 L (.int (I 10) :: st) μ n Q) : x_V S 110 18 L (st) μ n Q := x_bipush (by decide +kernel) d110_18 h
theorem s110_20 {S : Nat × (Nat → Int32)} {L : List (Option Value)} {st : List Value} {n : Nat} {Q : xQ} {μ : xM} {x y : Int} (hx : ib x) (hy : ib y) (kt : x ≠ y → x_V S 110 50 L (st) μ n Q) (kf : x = y → x_V S 110 23 L (st) μ n Q) : x_V S 110 20 L (.int (I y) :: .int (I x) :: st) μ n Q := v_icmp_ne d110_20 (by decide) hx hy kt kf
theorem s110_23 {S : Nat × (Nat → Int32)} {L : List (Option Value)} {st : List Value} {n : Nat} {Q : xQ} {μ : xM} {a : Nat} (hl : L[0]? = some (some (.ref a))) (h : x_V S 110 24 L (.ref a :: st) μ n Q) : x_V S 110 23 L (st) μ n Q := x_aload_n d110_23 hl h
theorem s110_23N {S : Nat × (Nat → Int32)} {L : List (Option Value)} {st : List Value} {n : Nat} {Q : xQ} {μ : xM} (hl : L[0]? = some (some .null)) (h : x_V S 110 24 L (.null :: st) μ n Q) : x_V S 110 23 L st μ n Q := x_aload_nN d110_23 hl h
theorem s110_24 {S : Nat × (Nat → Int32)} {L : List (Option Value)} {st : List Value} {n : Nat} {Q : xQ} {g : Nat → Nat → Int} {a : Nat} {v : Value} (hs : x_sh a = (9, 39)) (hp : x_pt a 7 = some v) (h : x_V S 110 27 L (v :: st) (x_vm g) n Q) : x_V S 110 24 L (.ref a :: st) (x_vm g) n Q := v_getp (i := 7) cf9 d110_24 (by decide) w702 hs hp h
theorem s110_27 {S : Nat × (Nat → Int32)} {L : List (Option Value)} {st : List Value} {n : Nat} {Q : xQ} {μ : xM} {x : Int32} (hl : L[1]? = some (some (.int x))) (h : x_V S 110 28 L (.int x :: st) μ n Q) : x_V S 110 27 L (st) μ n Q := x_iload_n d110_27 hl h
theorem s110_29 {S : Nat × (Nat → Int32)} {L : List (Option Value)} {st : List Value} {n : Nat} {Q : xQ} {μ : xM} {a : Nat} (hl : L[0]? = some (some (.ref a))) (h : x_V S 110 30 L (.ref a :: st) μ n Q) : x_V S 110 29 L (st) μ n Q := x_aload_n d110_29 hl h
theorem s110_29N {S : Nat × (Nat → Int32)} {L : List (Option Value)} {st : List Value} {n : Nat} {Q : xQ} {μ : xM} (hl : L[0]? = some (some .null)) (h : x_V S 110 30 L (.null :: st) μ n Q) : x_V S 110 29 L st μ n Q := x_aload_nN d110_29 hl h
theorem s110_30 {S : Nat × (Nat → Int32)} {L : List (Option Value)} {st : List Value} {n : Nat} {Q : xQ} {g : Nat → Nat → Int} {a : Nat} {v : Value} (hs : x_sh a = (9, 39)) (hp : x_pt a 6 = some v) (h : x_V S 110 33 L (v :: st) (x_vm g) n Q) : x_V S 110 30 L (.ref a :: st) (x_vm g) n Q := v_getp (i := 6) cf9 d110_30 (by decide) w701 hs hp h
theorem s110_33 {S : Nat × (Nat → Int32)} {L : List (Option Value)} {st : List Value} {n : Nat} {Q : xQ} {μ : xM} {x : Int32} (hl : L[1]? = some (some (.int x))) (h : x_V S 110 34 L (.int x :: st) μ n Q) : x_V S 110 33 L (st) μ n Q := x_iload_n d110_33 hl h
theorem s110_35 {S : Nat × (Nat → Int32)} {L : List (Option Value)} {st : List Value} {n : Nat} {Q : xQ} {μ : xM} {x y : Int} (h : x_V S 110 36 L (.int (I (x - y)) :: st) μ n Q) : x_V S 110 35 L (.int (I y) :: .int (I x) :: st) μ n Q := v_isub d110_35 h
theorem s110_36 {S : Nat × (Nat → Int32)} {L : List (Option Value)} {st : List Value} {n : Nat} {Q : xQ} {μ : xM}  (h : x_V S 110 37 L (.int (I 3) :: st) μ n Q) : x_V S 110 36 L (st) μ n Q := x_iconst (by decide +kernel) d110_36 h
theorem s110_37 {S : Nat × (Nat → Int32)} {L : List (Option Value)} {st : List Value} {n : Nat} {Q : xQ} {μ : xM} {x y : Int} (hx : ib x) (hy : ib y) (kt : x ≠ y → x_V S 110 50 L (st) μ n Q) (kf : x = y → x_V S 110 40 L (st) μ n Q) : x_V S 110 37 L (.int (I y) :: .int (I x) :: st) μ n Q := v_icmp_ne d110_37 (by decide) hx hy kt kf
theorem s110_40 {S : Nat × (Nat → Int32)} {L : List (Option Value)} {st : List Value} {n : Nat} {Q : xQ} {μ : xM} {a : Nat} (hl : L[0]? = some (some (.ref a))) (h : x_V S 110 41 L (.ref a :: st) μ n Q) : x_V S 110 40 L (st) μ n Q := x_aload_n d110_40 hl h
theorem s110_40N {S : Nat × (Nat → Int32)} {L : List (Option Value)} {st : List Value} {n : Nat} {Q : xQ} {μ : xM} (hl : L[0]? = some (some .null)) (h : x_V S 110 41 L (.null :: st) μ n Q) : x_V S 110 40 L st μ n Q := x_aload_nN d110_40 hl h
theorem s110_41 {S : Nat × (Nat → Int32)} {L : List (Option Value)} {st : List Value} {n : Nat} {Q : xQ} {μ : xM} {x : Int32} (hl : L[1]? = some (some (.int x))) (h : x_V S 110 42 L (.int x :: st) μ n Q) : x_V S 110 41 L (st) μ n Q := x_iload_n d110_41 hl h
theorem s110_42 {S : Nat × (Nat → Int32)} {L : List (Option Value)} {st : List Value} {n : Nat} {Q : xQ} {μ : xM}  (h : x_V S 110 44 L (.int (I 10) :: st) μ n Q) : x_V S 110 42 L (st) μ n Q := x_bipush (by decide +kernel) d110_42 h
theorem s110_44 {S : Nat × (Nat → Int32)} {L : List (Option Value)} {st : List Value} {n : Nat} {Q : xQ} {μ : xM} {x0 : Int32} {x1 : Int32} {a : Nat} (hs : x_sh a = (9, 39)) (hst : st.length ≤ 4) (h : x_V S 108 0 [some (.ref a), some (.int x0), some (.int x1), none, none] [] μ n (x_bk S 110 44 L st Q)) : x_V S 110 44 L (.int x1 :: .int x0 :: .ref a :: st) μ n Q := x_callV (k' := 108) (as := [.int x0, .int x1]) (na := 2) d110_44 ⟨w904, by decide +kernel, by decide, by decide, by decide, by decide, by decide⟩ cf9 w901 w903 wp36 (by decide +kernel) rfl hs (fun v hv => by
    simp only [List.mem_cons, List.not_mem_nil, or_false] at hv
    rcases hv with rfl | rfl <;> first | rfl | assumption) hst h
theorem s110_47 {S : Nat × (Nat → Int32)} {L : List (Option Value)} {st : List Value} {n : Nat} {Q : xQ} {μ : xM} {x : Int} (hx : ib x) (kt : 0 ≤ x → x_V S 110 52 L (st) μ n Q) (kf : x < 0 → x_V S 110 50 L (st) μ n Q) : x_V S 110 47 L (.int (I x) :: st) μ n Q := v_if_ge d110_47 (by decide) hx kt kf
theorem s110_50 {S : Nat × (Nat → Int32)} {L : List (Option Value)} {st : List Value} {n : Nat} {Q : xQ} {μ : xM}  (h : x_V S 110 51 L (.int (I 0) :: st) μ n Q) : x_V S 110 50 L (st) μ n Q := x_iconst (by decide +kernel) d110_50 h
theorem s110_51 {S : Nat × (Nat → Int32)} {L : List (Option Value)} {st : List Value} {n : Nat} {Q : xQ} {μ : xM} {v : Int} (hv : v = 0 ∨ v = 1) (h : Q (.inl (some (.int (I v)))) μ n) : x_V S 110 51 L (.int (I v) :: []) μ n Q := v_zreturn d110_51 rfl hv h
theorem s110_52 {S : Nat × (Nat → Int32)} {L : List (Option Value)} {st : List Value} {n : Nat} {Q : xQ} {μ : xM} {a : Nat} (hl : L[0]? = some (some (.ref a))) (h : x_V S 110 53 L (.ref a :: st) μ n Q) : x_V S 110 52 L (st) μ n Q := x_aload_n d110_52 hl h
theorem s110_52N {S : Nat × (Nat → Int32)} {L : List (Option Value)} {st : List Value} {n : Nat} {Q : xQ} {μ : xM} (hl : L[0]? = some (some .null)) (h : x_V S 110 53 L (.null :: st) μ n Q) : x_V S 110 52 L st μ n Q := x_aload_nN d110_52 hl h
theorem s110_53 {S : Nat × (Nat → Int32)} {L : List (Option Value)} {st : List Value} {n : Nat} {Q : xQ} {g : Nat → Nat → Int} {a : Nat} {v : Value} (hs : x_sh a = (9, 39)) (hp : x_pt a 6 = some v) (h : x_V S 110 56 L (v :: st) (x_vm g) n Q) : x_V S 110 53 L (.ref a :: st) (x_vm g) n Q := v_getp (i := 6) cf9 d110_53 (by decide) w701 hs hp h
theorem s110_56 {S : Nat × (Nat → Int32)} {L : List (Option Value)} {st : List Value} {n : Nat} {Q : xQ} {μ : xM} {x : Int32} (hl : L[1]? = some (some (.int x))) (h : x_V S 110 57 L (.int x :: st) μ n Q) : x_V S 110 56 L (st) μ n Q := x_iload_n d110_56 hl h
theorem s110_58 {S : Nat × (Nat → Int32)} {L : List (Option Value)} {st : List Value} {n : Nat} {Q : xQ} {μ : xM}  (h : x_V S 110 59 L (.int (I 3) :: st) μ n Q) : x_V S 110 58 L (st) μ n Q := x_iconst (by decide +kernel) d110_58 h
theorem s110_59 {S : Nat × (Nat → Int32)} {L : List (Option Value)} {st : List Value} {n : Nat} {Q : xQ} {μ : xM} {x y : Int} (h : x_V S 110 60 L (.int (I (x - y)) :: st) μ n Q) : x_V S 110 59 L (.int (I y) :: .int (I x) :: st) μ n Q := v_isub d110_59 h
theorem s110_60 {S : Nat × (Nat → Int32)} {L : List (Option Value)} {st : List Value} {n : Nat} {Q : xQ} {μ : xM} {x : Int32} (h : x_V S 110 61 (L.set 2 (some (.int x))) (st) μ n Q) : x_V S 110 60 L (.int x :: st) μ n Q := x_istore_n d110_60 (by decide) h
theorem s110_61 {S : Nat × (Nat → Int32)} {L : List (Option Value)} {st : List Value} {n : Nat} {Q : xQ} {μ : xM}  (h : x_V S 110 62 L (.int (I 0) :: st) μ n Q) : x_V S 110 61 L (st) μ n Q := x_iconst (by decide +kernel) d110_61 h
theorem s110_62 {S : Nat × (Nat → Int32)} {L : List (Option Value)} {st : List Value} {n : Nat} {Q : xQ} {μ : xM} {x : Int32} (h : x_V S 110 63 (L.set 3 (some (.int x))) (st) μ n Q) : x_V S 110 62 L (.int x :: st) μ n Q := x_istore_n d110_62 (by decide) h
theorem s110_63 {S : Nat × (Nat → Int32)} {L : List (Option Value)} {st : List Value} {n : Nat} {Q : xQ} {μ : xM}  (h : x_V S 110 64 L (.int (I 0) :: st) μ n Q) : x_V S 110 63 L (st) μ n Q := x_iconst (by decide +kernel) d110_63 h
theorem s110_64 {S : Nat × (Nat → Int32)} {L : List (Option Value)} {st : List Value} {n : Nat} {Q : xQ} {μ : xM} {x : Int32} (h : x_V S 110 66 (L.set 4 (some (.int x))) (st) μ n Q) : x_V S 110 64 L (.int x :: st) μ n Q := x_istore d110_64 (by decide) h
theorem s110_66 {S : Nat × (Nat → Int32)} {L : List (Option Value)} {st : List Value} {n : Nat} {Q : xQ} {μ : xM} {x : Int32} (hl : L[4]? = some (some (.int x))) (h : x_V S 110 68 L (.int x :: st) μ n Q) : x_V S 110 66 L (st) μ n Q := x_iload d110_66 hl h
theorem s110_68 {S : Nat × (Nat → Int32)} {L : List (Option Value)} {st : List Value} {n : Nat} {Q : xQ} {μ : xM} {x : Int32} (hl : L[2]? = some (some (.int x))) (h : x_V S 110 69 L (.int x :: st) μ n Q) : x_V S 110 68 L (st) μ n Q := x_iload_n d110_68 hl h
theorem s110_69 {S : Nat × (Nat → Int32)} {L : List (Option Value)} {st : List Value} {n : Nat} {Q : xQ} {μ : xM} {x y : Int} (hx : ib x) (hy : ib y) (kt : y ≤ x → x_V S 110 88 L (st) μ n Q) (kf : x < y → x_V S 110 72 L (st) μ n Q) : x_V S 110 69 L (.int (I y) :: .int (I x) :: st) μ n Q := v_icmp_ge d110_69 (by decide) hx hy kt kf
theorem s110_72 {S : Nat × (Nat → Int32)} {L : List (Option Value)} {st : List Value} {n : Nat} {Q : xQ} {μ : xM} {x : Int32} (hl : L[3]? = some (some (.int x))) (h : x_V S 110 73 L (.int x :: st) μ n Q) : x_V S 110 72 L (st) μ n Q := x_iload_n d110_72 hl h
theorem s110_73 {S : Nat × (Nat → Int32)} {L : List (Option Value)} {st : List Value} {n : Nat} {Q : xQ} {μ : xM} {a : Nat} (hl : L[0]? = some (some (.ref a))) (h : x_V S 110 74 L (.ref a :: st) μ n Q) : x_V S 110 73 L (st) μ n Q := x_aload_n d110_73 hl h
theorem s110_73N {S : Nat × (Nat → Int32)} {L : List (Option Value)} {st : List Value} {n : Nat} {Q : xQ} {μ : xM} (hl : L[0]? = some (some .null)) (h : x_V S 110 74 L (.null :: st) μ n Q) : x_V S 110 73 L st μ n Q := x_aload_nN d110_73 hl h
theorem s110_74 {S : Nat × (Nat → Int32)} {L : List (Option Value)} {st : List Value} {n : Nat} {Q : xQ} {g : Nat → Nat → Int} {a : Nat} {v : Value} (hs : x_sh a = (9, 39)) (hp : x_pt a 3 = some v) (h : x_V S 110 77 L (v :: st) (x_vm g) n Q) : x_V S 110 74 L (.ref a :: st) (x_vm g) n Q := v_getp (i := 3) cf9 d110_74 (by decide) w698 hs hp h
theorem s110_77 {S : Nat × (Nat → Int32)} {L : List (Option Value)} {st : List Value} {n : Nat} {Q : xQ} {μ : xM} {x : Int32} (hl : L[4]? = some (some (.int x))) (h : x_V S 110 79 L (.int x :: st) μ n Q) : x_V S 110 77 L (st) μ n Q := x_iload d110_77 hl h
theorem s110_80 {S : Nat × (Nat → Int32)} {L : List (Option Value)} {st : List Value} {n : Nat} {Q : xQ} {μ : xM} {x y : Int} (h : x_V S 110 81 L (.int (I (x + y)) :: st) μ n Q) : x_V S 110 80 L (.int (I y) :: .int (I x) :: st) μ n Q := v_iadd d110_80 h
theorem s110_81 {S : Nat × (Nat → Int32)} {L : List (Option Value)} {st : List Value} {n : Nat} {Q : xQ} {μ : xM} {x : Int32} (h : x_V S 110 82 (L.set 3 (some (.int x))) (st) μ n Q) : x_V S 110 81 L (.int x :: st) μ n Q := x_istore_n d110_81 (by decide) h
theorem s110_82 {S : Nat × (Nat → Int32)} {L : List (Option Value)} {st : List Value} {n : Nat} {Q : xQ} {μ : xM} {x : Int} (hl : L[4]? = some (some (.int (I x)))) (h : x_V S 110 85 (L.set 4 (some (.int (I (x + 1))))) (st) μ n Q) : x_V S 110 82 L (st) μ n Q := v_iinc d110_82 hl (by decide) h
theorem s110_85 {S : Nat × (Nat → Int32)} {L : List (Option Value)} {st : List Value} {n : Nat} {Q : xQ} {μ : xM}  (h : x_V S 110 66 L (st) μ n Q) : x_V S 110 85 L (st) μ n Q := x_goto (tgt := 66) (by decide) d110_85 h
theorem s110_88 {S : Nat × (Nat → Int32)} {L : List (Option Value)} {st : List Value} {n : Nat} {Q : xQ} {μ : xM} {a : Nat} (hl : L[0]? = some (some (.ref a))) (h : x_V S 110 89 L (.ref a :: st) μ n Q) : x_V S 110 88 L (st) μ n Q := x_aload_n d110_88 hl h
theorem s110_88N {S : Nat × (Nat → Int32)} {L : List (Option Value)} {st : List Value} {n : Nat} {Q : xQ} {μ : xM} (hl : L[0]? = some (some .null)) (h : x_V S 110 89 L (.null :: st) μ n Q) : x_V S 110 88 L st μ n Q := x_aload_nN d110_88 hl h
theorem s110_89 {S : Nat × (Nat → Int32)} {L : List (Option Value)} {st : List Value} {n : Nat} {Q : xQ} {μ : xM} {x : Int32} (hl : L[1]? = some (some (.int x))) (h : x_V S 110 90 L (.int x :: st) μ n Q) : x_V S 110 89 L (st) μ n Q := x_iload_n d110_89 hl h
theorem s110_90 {S : Nat × (Nat → Int32)} {L : List (Option Value)} {st : List Value} {n : Nat} {Q : xQ} {μ : xM}  (h : x_V S 110 92 L (.int (I 10) :: st) μ n Q) : x_V S 110 90 L (st) μ n Q := x_bipush (by decide +kernel) d110_90 h
theorem s110_92 {S : Nat × (Nat → Int32)} {L : List (Option Value)} {st : List Value} {n : Nat} {Q : xQ} {μ : xM} {x0 : Int32} {x1 : Int32} {a : Nat} (hs : x_sh a = (9, 39)) (hst : st.length ≤ 4) (h : x_V S 108 0 [some (.ref a), some (.int x0), some (.int x1), none, none] [] μ n (x_bk S 110 92 L st Q)) : x_V S 110 92 L (.int x1 :: .int x0 :: .ref a :: st) μ n Q := x_callV (k' := 108) (as := [.int x0, .int x1]) (na := 2) d110_92 ⟨w904, by decide +kernel, by decide, by decide, by decide, by decide, by decide⟩ cf9 w901 w903 wp36 (by decide +kernel) rfl hs (fun v hv => by
    simp only [List.mem_cons, List.not_mem_nil, or_false] at hv
    rcases hv with rfl | rfl <;> first | rfl | assumption) hst h
theorem s110_95 {S : Nat × (Nat → Int32)} {L : List (Option Value)} {st : List Value} {n : Nat} {Q : xQ} {μ : xM} {x : Int32} (hl : L[3]? = some (some (.int x))) (h : x_V S 110 96 L (.int x :: st) μ n Q) : x_V S 110 95 L (st) μ n Q := x_iload_n d110_95 hl h
theorem s110_96 {S : Nat × (Nat → Int32)} {L : List (Option Value)} {st : List Value} {n : Nat} {Q : xQ} {μ : xM}  (h : x_V S 110 99 L (.int (I 256) :: st) μ n Q) : x_V S 110 96 L (st) μ n Q := x_sipush (by decide +kernel) d110_96 h
theorem s110_99 {S : Nat × (Nat → Int32)} {L : List (Option Value)} {st : List Value} {n : Nat} {Q : xQ} {μ : xM} {x y : Int} (hx : ib x) (hy : ib y) (hx0 : 0 ≤ x) (hy0 : 0 < y) (h : x_V S 110 100 L (.int (I (x % y)) :: st) μ n Q) : x_V S 110 99 L (.int (I y) :: .int (I x) :: st) μ n Q := v_irem d110_99 hx hy hx0 hy0 h
theorem s110_100 {S : Nat × (Nat → Int32)} {L : List (Option Value)} {st : List Value} {n : Nat} {Q : xQ} {μ : xM} {x y : Int} (hx : ib x) (hy : ib y) (kt : x ≠ y → x_V S 110 127 L (st) μ n Q) (kf : x = y → x_V S 110 103 L (st) μ n Q) : x_V S 110 100 L (.int (I y) :: .int (I x) :: st) μ n Q := v_icmp_ne d110_100 (by decide) hx hy kt kf
theorem s110_103 {S : Nat × (Nat → Int32)} {L : List (Option Value)} {st : List Value} {n : Nat} {Q : xQ} {μ : xM} {a : Nat} (hl : L[0]? = some (some (.ref a))) (h : x_V S 110 104 L (.ref a :: st) μ n Q) : x_V S 110 103 L (st) μ n Q := x_aload_n d110_103 hl h
theorem s110_103N {S : Nat × (Nat → Int32)} {L : List (Option Value)} {st : List Value} {n : Nat} {Q : xQ} {μ : xM} (hl : L[0]? = some (some .null)) (h : x_V S 110 104 L (.null :: st) μ n Q) : x_V S 110 103 L st μ n Q := x_aload_nN d110_103 hl h
theorem s110_104 {S : Nat × (Nat → Int32)} {L : List (Option Value)} {st : List Value} {n : Nat} {Q : xQ} {μ : xM}  (h : x_V S 110 105 L (.int (I 1) :: st) μ n Q) : x_V S 110 104 L (st) μ n Q := x_iconst (by decide +kernel) d110_104 h
theorem s110_105 {S : Nat × (Nat → Int32)} {L : List (Option Value)} {st : List Value} {n : Nat} {Q : xQ} {μ : xM}  (h : x_V S 110 107 L (.int (I 9) :: st) μ n Q) : x_V S 110 105 L (st) μ n Q := x_bipush (by decide +kernel) d110_105 h
theorem s110_107 {S : Nat × (Nat → Int32)} {L : List (Option Value)} {st : List Value} {n : Nat} {Q : xQ} {μ : xM} {x0 : Int32} {x1 : Int32} {a : Nat} (hs : x_sh a = (9, 39)) (hst : st.length ≤ 4) (h : x_V S 108 0 [some (.ref a), some (.int x0), some (.int x1), none, none] [] μ n (x_bk S 110 107 L st Q)) : x_V S 110 107 L (.int x1 :: .int x0 :: .ref a :: st) μ n Q := x_callV (k' := 108) (as := [.int x0, .int x1]) (na := 2) d110_107 ⟨w904, by decide +kernel, by decide, by decide, by decide, by decide, by decide⟩ cf9 w901 w903 wp36 (by decide +kernel) rfl hs (fun v hv => by
    simp only [List.mem_cons, List.not_mem_nil, or_false] at hv
    rcases hv with rfl | rfl <;> first | rfl | assumption) hst h
theorem s110_110 {S : Nat × (Nat → Int32)} {L : List (Option Value)} {st : List Value} {n : Nat} {Q : xQ} {μ : xM} {x : Int32} (hl : L[2]? = some (some (.int x))) (h : x_V S 110 111 L (.int x :: st) μ n Q) : x_V S 110 110 L (st) μ n Q := x_iload_n d110_110 hl h
theorem s110_111 {S : Nat × (Nat → Int32)} {L : List (Option Value)} {st : List Value} {n : Nat} {Q : xQ} {μ : xM} {a : Nat} (hl : L[0]? = some (some (.ref a))) (h : x_V S 110 112 L (.ref a :: st) μ n Q) : x_V S 110 111 L (st) μ n Q := x_aload_n d110_111 hl h
theorem s110_111N {S : Nat × (Nat → Int32)} {L : List (Option Value)} {st : List Value} {n : Nat} {Q : xQ} {μ : xM} (hl : L[0]? = some (some .null)) (h : x_V S 110 112 L (.null :: st) μ n Q) : x_V S 110 111 L st μ n Q := x_aload_nN d110_111 hl h
theorem s110_112 {S : Nat × (Nat → Int32)} {L : List (Option Value)} {st : List Value} {n : Nat} {Q : xQ} {g : Nat → Nat → Int} {a : Nat} {v : Value} (hs : x_sh a = (9, 39)) (hp : x_pt a 7 = some v) (h : x_V S 110 115 L (v :: st) (x_vm g) n Q) : x_V S 110 112 L (.ref a :: st) (x_vm g) n Q := v_getp (i := 7) cf9 d110_112 (by decide) w702 hs hp h
theorem s110_115 {S : Nat × (Nat → Int32)} {L : List (Option Value)} {st : List Value} {n : Nat} {Q : xQ} {μ : xM}  (h : x_V S 110 116 L (.int (I 1) :: st) μ n Q) : x_V S 110 115 L (st) μ n Q := x_iconst (by decide +kernel) d110_115 h
theorem s110_117 {S : Nat × (Nat → Int32)} {L : List (Option Value)} {st : List Value} {n : Nat} {Q : xQ} {μ : xM} {x y : Int} (h : x_V S 110 118 L (.int (I (x - y)) :: st) μ n Q) : x_V S 110 117 L (.int (I y) :: .int (I x) :: st) μ n Q := v_isub d110_117 h
theorem s110_118 {S : Nat × (Nat → Int32)} {L : List (Option Value)} {st : List Value} {n : Nat} {Q : xQ} {μ : xM}  (h : x_V S 110 119 L (.int (I 1) :: st) μ n Q) : x_V S 110 118 L (st) μ n Q := x_iconst (by decide +kernel) d110_118 h
theorem s110_119 {S : Nat × (Nat → Int32)} {L : List (Option Value)} {st : List Value} {n : Nat} {Q : xQ} {μ : xM} {x y : Int} (h : x_V S 110 120 L (.int (I (x - y)) :: st) μ n Q) : x_V S 110 119 L (.int (I y) :: .int (I x) :: st) μ n Q := v_isub d110_119 h
theorem s110_120 {S : Nat × (Nat → Int32)} {L : List (Option Value)} {st : List Value} {n : Nat} {Q : xQ} {μ : xM} {x y : Int} (hx : ib x) (hy : ib y) (kt : x ≠ y → x_V S 110 127 L (st) μ n Q) (kf : x = y → x_V S 110 123 L (st) μ n Q) : x_V S 110 120 L (.int (I y) :: .int (I x) :: st) μ n Q := v_icmp_ne d110_120 (by decide) hx hy kt kf
theorem s110_123 {S : Nat × (Nat → Int32)} {L : List (Option Value)} {st : List Value} {n : Nat} {Q : xQ} {μ : xM}  (h : x_V S 110 124 L (.int (I 1) :: st) μ n Q) : x_V S 110 123 L (st) μ n Q := x_iconst (by decide +kernel) d110_123 h
theorem s110_124 {S : Nat × (Nat → Int32)} {L : List (Option Value)} {st : List Value} {n : Nat} {Q : xQ} {μ : xM}  (h : x_V S 110 128 L (st) μ n Q) : x_V S 110 124 L (st) μ n Q := x_goto (tgt := 128) (by decide) d110_124 h
theorem s110_127 {S : Nat × (Nat → Int32)} {L : List (Option Value)} {st : List Value} {n : Nat} {Q : xQ} {μ : xM}  (h : x_V S 110 128 L (.int (I 0) :: st) μ n Q) : x_V S 110 127 L (st) μ n Q := x_iconst (by decide +kernel) d110_127 h
theorem s110_128 {S : Nat × (Nat → Int32)} {L : List (Option Value)} {st : List Value} {n : Nat} {Q : xQ} {μ : xM} {v : Int} (hv : v = 0 ∨ v = 1) (h : Q (.inl (some (.int (I v)))) μ n) : x_V S 110 128 L (.int (I v) :: []) μ n Q := v_zreturn d110_128 rfl hv h
theorem mC_111 : mC 111 = prog_12_method_29_code := rfl
theorem d111_0 : decode (mC 111) 0 = .ok (.aload_n 0, 1) := by rw [mC_111]; decide +kernel
theorem d111_1 : decode (mC 111) 1 = .ok (.invokevirtual 158, 3) := by rw [mC_111]; decide +kernel
theorem d111_4 : decode (mC 111) 4 = .ok (.ifCond .eq 22, 3) := by rw [mC_111]; decide +kernel
theorem d111_7 : decode (mC 111) 7 = .ok (.aload_n 0, 1) := by rw [mC_111]; decide +kernel
theorem d111_8 : decode (mC 111) 8 = .ok (.invokevirtual 162, 3) := by rw [mC_111]; decide +kernel
theorem d111_11 : decode (mC 111) 11 = .ok (.ifCond .eq 15, 3) := by rw [mC_111]; decide +kernel
theorem d111_14 : decode (mC 111) 14 = .ok (.aload_n 0, 1) := by rw [mC_111]; decide +kernel
theorem d111_15 : decode (mC 111) 15 = .ok (.iconst 0, 1) := by rw [mC_111]; decide +kernel
theorem d111_16 : decode (mC 111) 16 = .ok (.bipush 8, 2) := by rw [mC_111]; decide +kernel
theorem d111_18 : decode (mC 111) 18 = .ok (.invokevirtual 165, 3) := by rw [mC_111]; decide +kernel
theorem d111_21 : decode (mC 111) 21 = .ok (.bipush 70, 2) := by rw [mC_111]; decide +kernel
theorem d111_23 : decode (mC 111) 23 = .ok (.if_icmp .eq 5, 3) := by rw [mC_111]; decide +kernel
theorem d111_26 : decode (mC 111) 26 = .ok (.iconst 0, 1) := by rw [mC_111]; decide +kernel
theorem d111_27 : decode (mC 111) 27 = .ok (.ireturn, 1) := by rw [mC_111]; decide +kernel
theorem d111_28 : decode (mC 111) 28 = .ok (.aload_n 0, 1) := by rw [mC_111]; decide +kernel
theorem d111_29 : decode (mC 111) 29 = .ok (.aload_n 0, 1) := by rw [mC_111]; decide +kernel
theorem d111_30 : decode (mC 111) 30 = .ok (.iconst 2, 1) := by rw [mC_111]; decide +kernel
theorem d111_31 : decode (mC 111) 31 = .ok (.bipush 35, 2) := by rw [mC_111]; decide +kernel
theorem d111_33 : decode (mC 111) 33 = .ok (.invokevirtual 165, 3) := by rw [mC_111]; decide +kernel
theorem d111_36 : decode (mC 111) 36 = .ok (.putfield 168, 3) := by rw [mC_111]; decide +kernel
theorem d111_39 : decode (mC 111) 39 = .ok (.aload_n 0, 1) := by rw [mC_111]; decide +kernel
theorem d111_40 : decode (mC 111) 40 = .ok (.aload_n 0, 1) := by rw [mC_111]; decide +kernel
theorem d111_41 : decode (mC 111) 41 = .ok (.iconst 3, 1) := by rw [mC_111]; decide +kernel
theorem d111_42 : decode (mC 111) 42 = .ok (.bipush 34, 2) := by rw [mC_111]; decide +kernel
theorem d111_44 : decode (mC 111) 44 = .ok (.invokevirtual 155, 3) := by rw [mC_111]; decide +kernel
theorem d111_47 : decode (mC 111) 47 = .ok (.putfield 171, 3) := by rw [mC_111]; decide +kernel
theorem d111_50 : decode (mC 111) 50 = .ok (.aload_n 0, 1) := by rw [mC_111]; decide +kernel
theorem d111_51 : decode (mC 111) 51 = .ok (.getfield 168, 3) := by rw [mC_111]; decide +kernel
theorem d111_54 : decode (mC 111) 54 = .ok (.ifCond .lt 20, 3) := by rw [mC_111]; decide +kernel
theorem d111_57 : decode (mC 111) 57 = .ok (.aload_n 0, 1) := by rw [mC_111]; decide +kernel
theorem d111_58 : decode (mC 111) 58 = .ok (.getfield 171, 3) := by rw [mC_111]; decide +kernel
theorem d111_61 : decode (mC 111) 61 = .ok (.ifCond .lt 13, 3) := by rw [mC_111]; decide +kernel
theorem d111_64 : decode (mC 111) 64 = .ok (.aload_n 0, 1) := by rw [mC_111]; decide +kernel
theorem d111_65 : decode (mC 111) 65 = .ok (.getfield 168, 3) := by rw [mC_111]; decide +kernel
theorem d111_68 : decode (mC 111) 68 = .ok (.invokestatic 134, 3) := by rw [mC_111]; decide +kernel
theorem d111_71 : decode (mC 111) 71 = .ok (.ifCond .ne 5, 3) := by rw [mC_111]; decide +kernel
theorem d111_74 : decode (mC 111) 74 = .ok (.iconst 0, 1) := by rw [mC_111]; decide +kernel
theorem d111_75 : decode (mC 111) 75 = .ok (.ireturn, 1) := by rw [mC_111]; decide +kernel
theorem d111_76 : decode (mC 111) 76 = .ok (.aload_n 0, 1) := by rw [mC_111]; decide +kernel
theorem d111_77 : decode (mC 111) 77 = .ok (.aload_n 0, 1) := by rw [mC_111]; decide +kernel
theorem d111_78 : decode (mC 111) 78 = .ok (.getfield 13, 3) := by rw [mC_111]; decide +kernel
theorem d111_81 : decode (mC 111) 81 = .ok (.iconst 4, 1) := by rw [mC_111]; decide +kernel
theorem d111_82 : decode (mC 111) 82 = .ok (.iaload, 1) := by rw [mC_111]; decide +kernel
theorem d111_83 : decode (mC 111) 83 = .ok (.bipush 43, 2) := by rw [mC_111]; decide +kernel
theorem d111_85 : decode (mC 111) 85 = .ok (.if_icmp .ne 7, 3) := by rw [mC_111]; decide +kernel
theorem d111_88 : decode (mC 111) 88 = .ok (.iconst 1, 1) := by rw [mC_111]; decide +kernel
theorem d111_89 : decode (mC 111) 89 = .ok (.goto 4, 3) := by rw [mC_111]; decide +kernel
theorem d111_92 : decode (mC 111) 92 = .ok (.iconst 0, 1) := by rw [mC_111]; decide +kernel
theorem d111_93 : decode (mC 111) 93 = .ok (.putfield 174, 3) := by rw [mC_111]; decide +kernel
theorem d111_96 : decode (mC 111) 96 = .ok (.aload_n 0, 1) := by rw [mC_111]; decide +kernel
theorem d111_97 : decode (mC 111) 97 = .ok (.getfield 174, 3) := by rw [mC_111]; decide +kernel
theorem d111_100 : decode (mC 111) 100 = .ok (.ifCond .eq 17, 3) := by rw [mC_111]; decide +kernel
theorem d111_103 : decode (mC 111) 103 = .ok (.aload_n 0, 1) := by rw [mC_111]; decide +kernel
theorem d111_104 : decode (mC 111) 104 = .ok (.iconst 4, 1) := by rw [mC_111]; decide +kernel
theorem d111_105 : decode (mC 111) 105 = .ok (.bipush 43, 2) := by rw [mC_111]; decide +kernel
theorem d111_107 : decode (mC 111) 107 = .ok (.invokevirtual 165, 3) := by rw [mC_111]; decide +kernel
theorem d111_110 : decode (mC 111) 110 = .ok (.bipush 89, 2) := by rw [mC_111]; decide +kernel
theorem d111_112 : decode (mC 111) 112 = .ok (.if_icmp .eq 5, 3) := by rw [mC_111]; decide +kernel
theorem d111_115 : decode (mC 111) 115 = .ok (.iconst 0, 1) := by rw [mC_111]; decide +kernel
theorem d111_116 : decode (mC 111) 116 = .ok (.ireturn, 1) := by rw [mC_111]; decide +kernel
theorem d111_117 : decode (mC 111) 117 = .ok (.aload_n 0, 1) := by rw [mC_111]; decide +kernel
theorem d111_118 : decode (mC 111) 118 = .ok (.getfield 174, 3) := by rw [mC_111]; decide +kernel
theorem d111_121 : decode (mC 111) 121 = .ok (.ifCond .eq 7, 3) := by rw [mC_111]; decide +kernel
theorem d111_124 : decode (mC 111) 124 = .ok (.iconst 5, 1) := by rw [mC_111]; decide +kernel
theorem d111_125 : decode (mC 111) 125 = .ok (.goto 4, 3) := by rw [mC_111]; decide +kernel
theorem d111_128 : decode (mC 111) 128 = .ok (.iconst 4, 1) := by rw [mC_111]; decide +kernel
theorem d111_129 : decode (mC 111) 129 = .ok (.istore_n 1, 1) := by rw [mC_111]; decide +kernel
theorem d111_130 : decode (mC 111) 130 = .ok (.aload_n 0, 1) := by rw [mC_111]; decide +kernel
theorem d111_131 : decode (mC 111) 131 = .ok (.iconst 0, 1) := by rw [mC_111]; decide +kernel
theorem d111_132 : decode (mC 111) 132 = .ok (.putfield 177, 3) := by rw [mC_111]; decide +kernel
theorem d111_135 : decode (mC 111) 135 = .ok (.aload_n 0, 1) := by rw [mC_111]; decide +kernel
theorem d111_136 : decode (mC 111) 136 = .ok (.iconst 0, 1) := by rw [mC_111]; decide +kernel
theorem d111_137 : decode (mC 111) 137 = .ok (.putfield 180, 3) := by rw [mC_111]; decide +kernel
theorem d111_140 : decode (mC 111) 140 = .ok (.aload_n 0, 1) := by rw [mC_111]; decide +kernel
theorem d111_141 : decode (mC 111) 141 = .ok (.iconst 0, 1) := by rw [mC_111]; decide +kernel
theorem d111_142 : decode (mC 111) 142 = .ok (.putfield 183, 3) := by rw [mC_111]; decide +kernel
theorem d111_145 : decode (mC 111) 145 = .ok (.aload_n 0, 1) := by rw [mC_111]; decide +kernel
theorem d111_146 : decode (mC 111) 146 = .ok (.iload_n 1, 1) := by rw [mC_111]; decide +kernel
theorem d111_147 : decode (mC 111) 147 = .ok (.aload_n 0, 1) := by rw [mC_111]; decide +kernel
theorem d111_148 : decode (mC 111) 148 = .ok (.getfield 149, 3) := by rw [mC_111]; decide +kernel
theorem d111_151 : decode (mC 111) 151 = .ok (.iconst 1, 1) := by rw [mC_111]; decide +kernel
theorem d111_152 : decode (mC 111) 152 = .ok (.isub, 1) := by rw [mC_111]; decide +kernel
theorem d111_153 : decode (mC 111) 153 = .ok (.if_icmp .ge 7, 3) := by rw [mC_111]; decide +kernel
theorem d111_156 : decode (mC 111) 156 = .ok (.iconst 1, 1) := by rw [mC_111]; decide +kernel
theorem d111_157 : decode (mC 111) 157 = .ok (.goto 4, 3) := by rw [mC_111]; decide +kernel
theorem d111_160 : decode (mC 111) 160 = .ok (.iconst 0, 1) := by rw [mC_111]; decide +kernel
theorem d111_161 : decode (mC 111) 161 = .ok (.putfield 186, 3) := by rw [mC_111]; decide +kernel
theorem d111_164 : decode (mC 111) 164 = .ok (.aload_n 0, 1) := by rw [mC_111]; decide +kernel
theorem d111_165 : decode (mC 111) 165 = .ok (.getfield 168, 3) := by rw [mC_111]; decide +kernel
theorem d111_168 : decode (mC 111) 168 = .ok (.bipush 48, 2) := by rw [mC_111]; decide +kernel
theorem d111_170 : decode (mC 111) 170 = .ok (.if_icmp .ne 12, 3) := by rw [mC_111]; decide +kernel
theorem d111_173 : decode (mC 111) 173 = .ok (.aload_n 0, 1) := by rw [mC_111]; decide +kernel
theorem d111_174 : decode (mC 111) 174 = .ok (.getfield 186, 3) := by rw [mC_111]; decide +kernel
theorem d111_177 : decode (mC 111) 177 = .ok (.ifCond .ne 5, 3) := by rw [mC_111]; decide +kernel
theorem d111_180 : decode (mC 111) 180 = .ok (.iconst 1, 1) := by rw [mC_111]; decide +kernel
theorem d111_181 : decode (mC 111) 181 = .ok (.ireturn, 1) := by rw [mC_111]; decide +kernel
theorem d111_182 : decode (mC 111) 182 = .ok (.iconst 1, 1) := by rw [mC_111]; decide +kernel
theorem d111_183 : decode (mC 111) 183 = .ok (.istore_n 2, 1) := by rw [mC_111]; decide +kernel
theorem d111_184 : decode (mC 111) 184 = .ok (.iconst 0, 1) := by rw [mC_111]; decide +kernel
theorem d111_185 : decode (mC 111) 185 = .ok (.istore_n 3, 1) := by rw [mC_111]; decide +kernel
theorem d111_186 : decode (mC 111) 186 = .ok (.iload_n 3, 1) := by rw [mC_111]; decide +kernel
theorem d111_187 : decode (mC 111) 187 = .ok (.iconst 3, 1) := by rw [mC_111]; decide +kernel
theorem d111_188 : decode (mC 111) 188 = .ok (.if_icmp .ge 155, 3) := by rw [mC_111]; decide +kernel
theorem d111_191 : decode (mC 111) 191 = .ok (.aload_n 0, 1) := by rw [mC_111]; decide +kernel
theorem d111_192 : decode (mC 111) 192 = .ok (.getfield 168, 3) := by rw [mC_111]; decide +kernel
theorem d111_195 : decode (mC 111) 195 = .ok (.iload_n 3, 1) := by rw [mC_111]; decide +kernel
theorem d111_196 : decode (mC 111) 196 = .ok (.invokestatic 87, 3) := by rw [mC_111]; decide +kernel
theorem d111_199 : decode (mC 111) 199 = .ok (.istore 4, 2) := by rw [mC_111]; decide +kernel
theorem d111_201 : decode (mC 111) 201 = .ok (.iload 4, 2) := by rw [mC_111]; decide +kernel
theorem d111_203 : decode (mC 111) 203 = .ok (.ifCond .le 134, 3) := by rw [mC_111]; decide +kernel
theorem d111_206 : decode (mC 111) 206 = .ok (.aload_n 0, 1) := by rw [mC_111]; decide +kernel
theorem d111_207 : decode (mC 111) 207 = .ok (.getfield 168, 3) := by rw [mC_111]; decide +kernel
theorem d111_210 : decode (mC 111) 210 = .ok (.bipush 52, 2) := by rw [mC_111]; decide +kernel
theorem d111_212 : decode (mC 111) 212 = .ok (.if_icmp .ne 18, 3) := by rw [mC_111]; decide +kernel
theorem d111_215 : decode (mC 111) 215 = .ok (.iload_n 3, 1) := by rw [mC_111]; decide +kernel
theorem d111_216 : decode (mC 111) 216 = .ok (.iconst 1, 1) := by rw [mC_111]; decide +kernel
theorem d111_217 : decode (mC 111) 217 = .ok (.if_icmp .ne 13, 3) := by rw [mC_111]; decide +kernel
theorem d111_220 : decode (mC 111) 220 = .ok (.aload_n 0, 1) := by rw [mC_111]; decide +kernel
theorem d111_221 : decode (mC 111) 221 = .ok (.iload_n 1, 1) := by rw [mC_111]; decide +kernel
theorem d111_222 : decode (mC 111) 222 = .ok (.iload 4, 2) := by rw [mC_111]; decide +kernel
theorem d111_224 : decode (mC 111) 224 = .ok (.invokevirtual 165, 3) := by rw [mC_111]; decide +kernel
theorem d111_227 : decode (mC 111) 227 = .ok (.goto 10, 3) := by rw [mC_111]; decide +kernel
theorem d111_230 : decode (mC 111) 230 = .ok (.aload_n 0, 1) := by rw [mC_111]; decide +kernel
theorem d111_231 : decode (mC 111) 231 = .ok (.iload_n 1, 1) := by rw [mC_111]; decide +kernel
theorem d111_232 : decode (mC 111) 232 = .ok (.iload 4, 2) := by rw [mC_111]; decide +kernel
theorem d111_234 : decode (mC 111) 234 = .ok (.invokevirtual 155, 3) := by rw [mC_111]; decide +kernel
theorem d111_237 : decode (mC 111) 237 = .ok (.istore 5, 2) := by rw [mC_111]; decide +kernel
theorem d111_239 : decode (mC 111) 239 = .ok (.iload_n 2, 1) := by rw [mC_111]; decide +kernel
theorem d111_240 : decode (mC 111) 240 = .ok (.ifCond .eq 39, 3) := by rw [mC_111]; decide +kernel
theorem d111_243 : decode (mC 111) 243 = .ok (.iload 5, 2) := by rw [mC_111]; decide +kernel
theorem d111_245 : decode (mC 111) 245 = .ok (.ifCond .lt 34, 3) := by rw [mC_111]; decide +kernel
theorem d111_248 : decode (mC 111) 248 = .ok (.aload_n 0, 1) := by rw [mC_111]; decide +kernel
theorem d111_249 : decode (mC 111) 249 = .ok (.getfield 168, 3) := by rw [mC_111]; decide +kernel
theorem d111_252 : decode (mC 111) 252 = .ok (.bipush 52, 2) := by rw [mC_111]; decide +kernel
theorem d111_254 : decode (mC 111) 254 = .ok (.if_icmp .ne 21, 3) := by rw [mC_111]; decide +kernel
theorem d111_257 : decode (mC 111) 257 = .ok (.iload_n 3, 1) := by rw [mC_111]; decide +kernel
theorem d111_258 : decode (mC 111) 258 = .ok (.ifCond .eq 17, 3) := by rw [mC_111]; decide +kernel
theorem d111_261 : decode (mC 111) 261 = .ok (.iload 5, 2) := by rw [mC_111]; decide +kernel
theorem d111_263 : decode (mC 111) 263 = .ok (.bipush 89, 2) := by rw [mC_111]; decide +kernel
theorem d111_265 : decode (mC 111) 265 = .ok (.if_icmp .eq 10, 3) := by rw [mC_111]; decide +kernel
theorem d111_268 : decode (mC 111) 268 = .ok (.iload 5, 2) := by rw [mC_111]; decide +kernel
theorem d111_270 : decode (mC 111) 270 = .ok (.bipush 78, 2) := by rw [mC_111]; decide +kernel
theorem d111_272 : decode (mC 111) 272 = .ok (.if_icmp .ne 7, 3) := by rw [mC_111]; decide +kernel
theorem d111_275 : decode (mC 111) 275 = .ok (.iconst 1, 1) := by rw [mC_111]; decide +kernel
theorem d111_276 : decode (mC 111) 276 = .ok (.goto 4, 3) := by rw [mC_111]; decide +kernel
theorem d111_279 : decode (mC 111) 279 = .ok (.iconst 0, 1) := by rw [mC_111]; decide +kernel
theorem d111_280 : decode (mC 111) 280 = .ok (.istore_n 2, 1) := by rw [mC_111]; decide +kernel
theorem d111_281 : decode (mC 111) 281 = .ok (.aload_n 0, 1) := by rw [mC_111]; decide +kernel
theorem d111_282 : decode (mC 111) 282 = .ok (.iload_n 3, 1) := by rw [mC_111]; decide +kernel
theorem d111_283 : decode (mC 111) 283 = .ok (.ifCond .ne 8, 3) := by rw [mC_111]; decide +kernel
theorem d111_286 : decode (mC 111) 286 = .ok (.iload 5, 2) := by rw [mC_111]; decide +kernel
theorem d111_288 : decode (mC 111) 288 = .ok (.goto 7, 3) := by rw [mC_111]; decide +kernel
theorem d111_291 : decode (mC 111) 291 = .ok (.aload_n 0, 1) := by rw [mC_111]; decide +kernel
theorem d111_292 : decode (mC 111) 292 = .ok (.getfield 177, 3) := by rw [mC_111]; decide +kernel
theorem d111_295 : decode (mC 111) 295 = .ok (.putfield 177, 3) := by rw [mC_111]; decide +kernel
theorem d111_298 : decode (mC 111) 298 = .ok (.aload_n 0, 1) := by rw [mC_111]; decide +kernel
theorem d111_299 : decode (mC 111) 299 = .ok (.iload_n 3, 1) := by rw [mC_111]; decide +kernel
theorem d111_300 : decode (mC 111) 300 = .ok (.iconst 1, 1) := by rw [mC_111]; decide +kernel
theorem d111_301 : decode (mC 111) 301 = .ok (.if_icmp .ne 8, 3) := by rw [mC_111]; decide +kernel
theorem d111_304 : decode (mC 111) 304 = .ok (.iload 5, 2) := by rw [mC_111]; decide +kernel
theorem d111_306 : decode (mC 111) 306 = .ok (.goto 7, 3) := by rw [mC_111]; decide +kernel
theorem d111_309 : decode (mC 111) 309 = .ok (.aload_n 0, 1) := by rw [mC_111]; decide +kernel
theorem d111_310 : decode (mC 111) 310 = .ok (.getfield 180, 3) := by rw [mC_111]; decide +kernel
theorem d111_313 : decode (mC 111) 313 = .ok (.putfield 180, 3) := by rw [mC_111]; decide +kernel
theorem d111_316 : decode (mC 111) 316 = .ok (.aload_n 0, 1) := by rw [mC_111]; decide +kernel
theorem d111_317 : decode (mC 111) 317 = .ok (.iload_n 3, 1) := by rw [mC_111]; decide +kernel
theorem d111_318 : decode (mC 111) 318 = .ok (.iconst 2, 1) := by rw [mC_111]; decide +kernel
theorem d111_319 : decode (mC 111) 319 = .ok (.if_icmp .ne 8, 3) := by rw [mC_111]; decide +kernel
theorem d111_322 : decode (mC 111) 322 = .ok (.iload 5, 2) := by rw [mC_111]; decide +kernel
theorem d111_324 : decode (mC 111) 324 = .ok (.goto 7, 3) := by rw [mC_111]; decide +kernel
theorem d111_327 : decode (mC 111) 327 = .ok (.aload_n 0, 1) := by rw [mC_111]; decide +kernel
theorem d111_328 : decode (mC 111) 328 = .ok (.getfield 183, 3) := by rw [mC_111]; decide +kernel
theorem d111_331 : decode (mC 111) 331 = .ok (.putfield 183, 3) := by rw [mC_111]; decide +kernel
theorem d111_334 : decode (mC 111) 334 = .ok (.iinc 1 1, 3) := by rw [mC_111]; decide +kernel
theorem d111_337 : decode (mC 111) 337 = .ok (.iinc 3 1, 3) := by rw [mC_111]; decide +kernel
theorem d111_340 : decode (mC 111) 340 = .ok (.goto (-154), 3) := by rw [mC_111]; decide +kernel
theorem d111_343 : decode (mC 111) 343 = .ok (.iload_n 2, 1) := by rw [mC_111]; decide +kernel
theorem d111_344 : decode (mC 111) 344 = .ok (.ifCond .eq 17, 3) := by rw [mC_111]; decide +kernel
theorem d111_347 : decode (mC 111) 347 = .ok (.iload_n 1, 1) := by rw [mC_111]; decide +kernel
theorem d111_348 : decode (mC 111) 348 = .ok (.aload_n 0, 1) := by rw [mC_111]; decide +kernel
theorem d111_349 : decode (mC 111) 349 = .ok (.getfield 149, 3) := by rw [mC_111]; decide +kernel
theorem d111_352 : decode (mC 111) 352 = .ok (.iconst 1, 1) := by rw [mC_111]; decide +kernel
theorem d111_353 : decode (mC 111) 353 = .ok (.isub, 1) := by rw [mC_111]; decide +kernel
theorem d111_354 : decode (mC 111) 354 = .ok (.if_icmp .ne 7, 3) := by rw [mC_111]; decide +kernel
theorem d111_357 : decode (mC 111) 357 = .ok (.iconst 1, 1) := by rw [mC_111]; decide +kernel
theorem d111_358 : decode (mC 111) 358 = .ok (.goto 4, 3) := by rw [mC_111]; decide +kernel
theorem d111_361 : decode (mC 111) 361 = .ok (.iconst 0, 1) := by rw [mC_111]; decide +kernel
theorem d111_362 : decode (mC 111) 362 = .ok (.ireturn, 1) := by rw [mC_111]; decide +kernel
theorem s111_0 {S : Nat × (Nat → Int32)} {L : List (Option Value)} {st : List Value} {n : Nat} {Q : xQ} {μ : xM} {a : Nat} (hl : L[0]? = some (some (.ref a))) (h : x_V S 111 1 L (.ref a :: st) μ n Q) : x_V S 111 0 L (st) μ n Q := x_aload_n d111_0 hl h
theorem s111_0N {S : Nat × (Nat → Int32)} {L : List (Option Value)} {st : List Value} {n : Nat} {Q : xQ} {μ : xM} (hl : L[0]? = some (some .null)) (h : x_V S 111 1 L (.null :: st) μ n Q) : x_V S 111 0 L st μ n Q := x_aload_nN d111_0 hl h
theorem s111_1 {S : Nat × (Nat → Int32)} {L : List (Option Value)} {st : List Value} {n : Nat} {Q : xQ} {μ : xM}  {a : Nat} (hs : x_sh a = (9, 39)) (hst : st.length ≤ 4) (h : x_V S 107 0 [some (.ref a), none, none, none, none] [] μ n (x_bk S 111 1 L st Q)) : x_V S 111 1 L (.ref a :: st) μ n Q := x_callV (k' := 107) (as := []) (na := 0) d111_1 ⟨w893, by decide +kernel, by decide, by decide, by decide, by decide, by decide⟩ cf9 w890 w892 wp34 (by decide +kernel) rfl hs (fun v hv => by
    cases hv) hst h
theorem s111_4 {S : Nat × (Nat → Int32)} {L : List (Option Value)} {st : List Value} {n : Nat} {Q : xQ} {μ : xM} {x : Int} (hx : ib x) (kt : x = 0 → x_V S 111 26 L (st) μ n Q) (kf : x ≠ 0 → x_V S 111 7 L (st) μ n Q) : x_V S 111 4 L (.int (I x) :: st) μ n Q := v_if_eq d111_4 (by decide) hx kt kf
theorem s111_7 {S : Nat × (Nat → Int32)} {L : List (Option Value)} {st : List Value} {n : Nat} {Q : xQ} {μ : xM} {a : Nat} (hl : L[0]? = some (some (.ref a))) (h : x_V S 111 8 L (.ref a :: st) μ n Q) : x_V S 111 7 L (st) μ n Q := x_aload_n d111_7 hl h
theorem s111_7N {S : Nat × (Nat → Int32)} {L : List (Option Value)} {st : List Value} {n : Nat} {Q : xQ} {μ : xM} (hl : L[0]? = some (some .null)) (h : x_V S 111 8 L (.null :: st) μ n Q) : x_V S 111 7 L st μ n Q := x_aload_nN d111_7 hl h
theorem s111_8 {S : Nat × (Nat → Int32)} {L : List (Option Value)} {st : List Value} {n : Nat} {Q : xQ} {μ : xM}  {a : Nat} (hs : x_sh a = (9, 39)) (hst : st.length ≤ 4) (h : x_V S 110 0 [some (.ref a), none, none, none, none] [] μ n (x_bk S 111 8 L st Q)) : x_V S 111 8 L (.ref a :: st) μ n Q := x_callV (k' := 110) (as := []) (na := 0) d111_8 ⟨w900, by decide +kernel, by decide, by decide, by decide, by decide, by decide⟩ cf9 w897 w899 wp35 (by decide +kernel) rfl hs (fun v hv => by
    cases hv) hst h
theorem s111_11 {S : Nat × (Nat → Int32)} {L : List (Option Value)} {st : List Value} {n : Nat} {Q : xQ} {μ : xM} {x : Int} (hx : ib x) (kt : x = 0 → x_V S 111 26 L (st) μ n Q) (kf : x ≠ 0 → x_V S 111 14 L (st) μ n Q) : x_V S 111 11 L (.int (I x) :: st) μ n Q := v_if_eq d111_11 (by decide) hx kt kf
theorem s111_14 {S : Nat × (Nat → Int32)} {L : List (Option Value)} {st : List Value} {n : Nat} {Q : xQ} {μ : xM} {a : Nat} (hl : L[0]? = some (some (.ref a))) (h : x_V S 111 15 L (.ref a :: st) μ n Q) : x_V S 111 14 L (st) μ n Q := x_aload_n d111_14 hl h
theorem s111_14N {S : Nat × (Nat → Int32)} {L : List (Option Value)} {st : List Value} {n : Nat} {Q : xQ} {μ : xM} (hl : L[0]? = some (some .null)) (h : x_V S 111 15 L (.null :: st) μ n Q) : x_V S 111 14 L st μ n Q := x_aload_nN d111_14 hl h
theorem s111_15 {S : Nat × (Nat → Int32)} {L : List (Option Value)} {st : List Value} {n : Nat} {Q : xQ} {μ : xM}  (h : x_V S 111 16 L (.int (I 0) :: st) μ n Q) : x_V S 111 15 L (st) μ n Q := x_iconst (by decide +kernel) d111_15 h
theorem s111_16 {S : Nat × (Nat → Int32)} {L : List (Option Value)} {st : List Value} {n : Nat} {Q : xQ} {μ : xM}  (h : x_V S 111 18 L (.int (I 8) :: st) μ n Q) : x_V S 111 16 L (st) μ n Q := x_bipush (by decide +kernel) d111_16 h
theorem s111_18 {S : Nat × (Nat → Int32)} {L : List (Option Value)} {st : List Value} {n : Nat} {Q : xQ} {μ : xM} {x0 : Int32} {x1 : Int32} {a : Nat} (hs : x_sh a = (9, 39)) (hst : st.length ≤ 4) (h : x_V S 109 0 [some (.ref a), some (.int x0), some (.int x1)] [] μ n (x_bk S 111 18 L st Q)) : x_V S 111 18 L (.int x1 :: .int x0 :: .ref a :: st) μ n Q := x_callV (k' := 109) (as := [.int x0, .int x1]) (na := 2) d111_18 ⟨w908, by decide +kernel, by decide, by decide, by decide, by decide, by decide⟩ cf9 w905 w907 wp37 (by decide +kernel) rfl hs (fun v hv => by
    simp only [List.mem_cons, List.not_mem_nil, or_false] at hv
    rcases hv with rfl | rfl <;> first | rfl | assumption) hst h
theorem s111_21 {S : Nat × (Nat → Int32)} {L : List (Option Value)} {st : List Value} {n : Nat} {Q : xQ} {μ : xM}  (h : x_V S 111 23 L (.int (I 70) :: st) μ n Q) : x_V S 111 21 L (st) μ n Q := x_bipush (by decide +kernel) d111_21 h
theorem s111_23 {S : Nat × (Nat → Int32)} {L : List (Option Value)} {st : List Value} {n : Nat} {Q : xQ} {μ : xM} {x y : Int} (hx : ib x) (hy : ib y) (kt : x = y → x_V S 111 28 L (st) μ n Q) (kf : x ≠ y → x_V S 111 26 L (st) μ n Q) : x_V S 111 23 L (.int (I y) :: .int (I x) :: st) μ n Q := v_icmp_eq d111_23 (by decide) hx hy kt kf
theorem s111_26 {S : Nat × (Nat → Int32)} {L : List (Option Value)} {st : List Value} {n : Nat} {Q : xQ} {μ : xM}  (h : x_V S 111 27 L (.int (I 0) :: st) μ n Q) : x_V S 111 26 L (st) μ n Q := x_iconst (by decide +kernel) d111_26 h
theorem s111_27 {S : Nat × (Nat → Int32)} {L : List (Option Value)} {st : List Value} {n : Nat} {Q : xQ} {μ : xM} {v : Int} (hv : v = 0 ∨ v = 1) (h : Q (.inl (some (.int (I v)))) μ n) : x_V S 111 27 L (.int (I v) :: []) μ n Q := v_zreturn d111_27 rfl hv h
theorem s111_28 {S : Nat × (Nat → Int32)} {L : List (Option Value)} {st : List Value} {n : Nat} {Q : xQ} {μ : xM} {a : Nat} (hl : L[0]? = some (some (.ref a))) (h : x_V S 111 29 L (.ref a :: st) μ n Q) : x_V S 111 28 L (st) μ n Q := x_aload_n d111_28 hl h
theorem s111_28N {S : Nat × (Nat → Int32)} {L : List (Option Value)} {st : List Value} {n : Nat} {Q : xQ} {μ : xM} (hl : L[0]? = some (some .null)) (h : x_V S 111 29 L (.null :: st) μ n Q) : x_V S 111 28 L st μ n Q := x_aload_nN d111_28 hl h
theorem s111_29 {S : Nat × (Nat → Int32)} {L : List (Option Value)} {st : List Value} {n : Nat} {Q : xQ} {μ : xM} {a : Nat} (hl : L[0]? = some (some (.ref a))) (h : x_V S 111 30 L (.ref a :: st) μ n Q) : x_V S 111 29 L (st) μ n Q := x_aload_n d111_29 hl h
theorem s111_29N {S : Nat × (Nat → Int32)} {L : List (Option Value)} {st : List Value} {n : Nat} {Q : xQ} {μ : xM} (hl : L[0]? = some (some .null)) (h : x_V S 111 30 L (.null :: st) μ n Q) : x_V S 111 29 L st μ n Q := x_aload_nN d111_29 hl h
theorem s111_30 {S : Nat × (Nat → Int32)} {L : List (Option Value)} {st : List Value} {n : Nat} {Q : xQ} {μ : xM}  (h : x_V S 111 31 L (.int (I 2) :: st) μ n Q) : x_V S 111 30 L (st) μ n Q := x_iconst (by decide +kernel) d111_30 h
theorem s111_31 {S : Nat × (Nat → Int32)} {L : List (Option Value)} {st : List Value} {n : Nat} {Q : xQ} {μ : xM}  (h : x_V S 111 33 L (.int (I 35) :: st) μ n Q) : x_V S 111 31 L (st) μ n Q := x_bipush (by decide +kernel) d111_31 h
theorem s111_33 {S : Nat × (Nat → Int32)} {L : List (Option Value)} {st : List Value} {n : Nat} {Q : xQ} {μ : xM} {x0 : Int32} {x1 : Int32} {a : Nat} (hs : x_sh a = (9, 39)) (hst : st.length ≤ 4) (h : x_V S 109 0 [some (.ref a), some (.int x0), some (.int x1)] [] μ n (x_bk S 111 33 L st Q)) : x_V S 111 33 L (.int x1 :: .int x0 :: .ref a :: st) μ n Q := x_callV (k' := 109) (as := [.int x0, .int x1]) (na := 2) d111_33 ⟨w908, by decide +kernel, by decide, by decide, by decide, by decide, by decide⟩ cf9 w905 w907 wp37 (by decide +kernel) rfl hs (fun v hv => by
    simp only [List.mem_cons, List.not_mem_nil, or_false] at hv
    rcases hv with rfl | rfl <;> first | rfl | assumption) hst h
theorem s111_36 {S : Nat × (Nat → Int32)} {L : List (Option Value)} {st : List Value} {n : Nat} {Q : xQ} {g : Nat → Nat → Int} {a : Nat} {x : Int} (hs : x_sh a = (9, 39)) (hp : x_pt a 8 = none) (ha : a ≠ x_out) (h : x_V S 111 39 L (st) (x_vm (x_uf g a 8 x)) n Q) : x_V S 111 36 L (.int (I x) :: .ref a :: st) (x_vm g) n Q := v_put (i := 8) cf9 d111_36 (by decide) rfl w703 hs rfl hp ha h
theorem s111_39 {S : Nat × (Nat → Int32)} {L : List (Option Value)} {st : List Value} {n : Nat} {Q : xQ} {μ : xM} {a : Nat} (hl : L[0]? = some (some (.ref a))) (h : x_V S 111 40 L (.ref a :: st) μ n Q) : x_V S 111 39 L (st) μ n Q := x_aload_n d111_39 hl h
theorem s111_39N {S : Nat × (Nat → Int32)} {L : List (Option Value)} {st : List Value} {n : Nat} {Q : xQ} {μ : xM} (hl : L[0]? = some (some .null)) (h : x_V S 111 40 L (.null :: st) μ n Q) : x_V S 111 39 L st μ n Q := x_aload_nN d111_39 hl h
theorem s111_40 {S : Nat × (Nat → Int32)} {L : List (Option Value)} {st : List Value} {n : Nat} {Q : xQ} {μ : xM} {a : Nat} (hl : L[0]? = some (some (.ref a))) (h : x_V S 111 41 L (.ref a :: st) μ n Q) : x_V S 111 40 L (st) μ n Q := x_aload_n d111_40 hl h
theorem s111_40N {S : Nat × (Nat → Int32)} {L : List (Option Value)} {st : List Value} {n : Nat} {Q : xQ} {μ : xM} (hl : L[0]? = some (some .null)) (h : x_V S 111 41 L (.null :: st) μ n Q) : x_V S 111 40 L st μ n Q := x_aload_nN d111_40 hl h
theorem s111_41 {S : Nat × (Nat → Int32)} {L : List (Option Value)} {st : List Value} {n : Nat} {Q : xQ} {μ : xM}  (h : x_V S 111 42 L (.int (I 3) :: st) μ n Q) : x_V S 111 41 L (st) μ n Q := x_iconst (by decide +kernel) d111_41 h
theorem s111_42 {S : Nat × (Nat → Int32)} {L : List (Option Value)} {st : List Value} {n : Nat} {Q : xQ} {μ : xM}  (h : x_V S 111 44 L (.int (I 34) :: st) μ n Q) : x_V S 111 42 L (st) μ n Q := x_bipush (by decide +kernel) d111_42 h
theorem s111_44 {S : Nat × (Nat → Int32)} {L : List (Option Value)} {st : List Value} {n : Nat} {Q : xQ} {μ : xM} {x0 : Int32} {x1 : Int32} {a : Nat} (hs : x_sh a = (9, 39)) (hst : st.length ≤ 4) (h : x_V S 108 0 [some (.ref a), some (.int x0), some (.int x1), none, none] [] μ n (x_bk S 111 44 L st Q)) : x_V S 111 44 L (.int x1 :: .int x0 :: .ref a :: st) μ n Q := x_callV (k' := 108) (as := [.int x0, .int x1]) (na := 2) d111_44 ⟨w904, by decide +kernel, by decide, by decide, by decide, by decide, by decide⟩ cf9 w901 w903 wp36 (by decide +kernel) rfl hs (fun v hv => by
    simp only [List.mem_cons, List.not_mem_nil, or_false] at hv
    rcases hv with rfl | rfl <;> first | rfl | assumption) hst h
theorem s111_47 {S : Nat × (Nat → Int32)} {L : List (Option Value)} {st : List Value} {n : Nat} {Q : xQ} {g : Nat → Nat → Int} {a : Nat} {x : Int} (hs : x_sh a = (9, 39)) (hp : x_pt a 9 = none) (ha : a ≠ x_out) (h : x_V S 111 50 L (st) (x_vm (x_uf g a 9 x)) n Q) : x_V S 111 47 L (.int (I x) :: .ref a :: st) (x_vm g) n Q := v_put (i := 9) cf9 d111_47 (by decide) rfl w704 hs rfl hp ha h
theorem s111_50 {S : Nat × (Nat → Int32)} {L : List (Option Value)} {st : List Value} {n : Nat} {Q : xQ} {μ : xM} {a : Nat} (hl : L[0]? = some (some (.ref a))) (h : x_V S 111 51 L (.ref a :: st) μ n Q) : x_V S 111 50 L (st) μ n Q := x_aload_n d111_50 hl h
theorem s111_50N {S : Nat × (Nat → Int32)} {L : List (Option Value)} {st : List Value} {n : Nat} {Q : xQ} {μ : xM} (hl : L[0]? = some (some .null)) (h : x_V S 111 51 L (.null :: st) μ n Q) : x_V S 111 50 L st μ n Q := x_aload_nN d111_50 hl h
theorem s111_51 {S : Nat × (Nat → Int32)} {L : List (Option Value)} {st : List Value} {n : Nat} {Q : xQ} {g : Nat → Nat → Int} {a : Nat} (hs : x_sh a = (9, 39)) (hp : x_pt a 8 = none) (ha : a ≠ x_out) (h : x_V S 111 54 L (.int (I (g a 8)) :: st) (x_vm g) n Q) : x_V S 111 51 L (.ref a :: st) (x_vm g) n Q := v_get (i := 8) cf9 d111_51 (by decide) w703 hs hp ha h
theorem s111_54 {S : Nat × (Nat → Int32)} {L : List (Option Value)} {st : List Value} {n : Nat} {Q : xQ} {μ : xM} {x : Int} (hx : ib x) (kt : x < 0 → x_V S 111 74 L (st) μ n Q) (kf : 0 ≤ x → x_V S 111 57 L (st) μ n Q) : x_V S 111 54 L (.int (I x) :: st) μ n Q := v_if_lt d111_54 (by decide) hx kt kf
theorem s111_57 {S : Nat × (Nat → Int32)} {L : List (Option Value)} {st : List Value} {n : Nat} {Q : xQ} {μ : xM} {a : Nat} (hl : L[0]? = some (some (.ref a))) (h : x_V S 111 58 L (.ref a :: st) μ n Q) : x_V S 111 57 L (st) μ n Q := x_aload_n d111_57 hl h
theorem s111_57N {S : Nat × (Nat → Int32)} {L : List (Option Value)} {st : List Value} {n : Nat} {Q : xQ} {μ : xM} (hl : L[0]? = some (some .null)) (h : x_V S 111 58 L (.null :: st) μ n Q) : x_V S 111 57 L st μ n Q := x_aload_nN d111_57 hl h
theorem s111_58 {S : Nat × (Nat → Int32)} {L : List (Option Value)} {st : List Value} {n : Nat} {Q : xQ} {g : Nat → Nat → Int} {a : Nat} (hs : x_sh a = (9, 39)) (hp : x_pt a 9 = none) (ha : a ≠ x_out) (h : x_V S 111 61 L (.int (I (g a 9)) :: st) (x_vm g) n Q) : x_V S 111 58 L (.ref a :: st) (x_vm g) n Q := v_get (i := 9) cf9 d111_58 (by decide) w704 hs hp ha h
theorem s111_61 {S : Nat × (Nat → Int32)} {L : List (Option Value)} {st : List Value} {n : Nat} {Q : xQ} {μ : xM} {x : Int} (hx : ib x) (kt : x < 0 → x_V S 111 74 L (st) μ n Q) (kf : 0 ≤ x → x_V S 111 64 L (st) μ n Q) : x_V S 111 61 L (.int (I x) :: st) μ n Q := v_if_lt d111_61 (by decide) hx kt kf
theorem s111_64 {S : Nat × (Nat → Int32)} {L : List (Option Value)} {st : List Value} {n : Nat} {Q : xQ} {μ : xM} {a : Nat} (hl : L[0]? = some (some (.ref a))) (h : x_V S 111 65 L (.ref a :: st) μ n Q) : x_V S 111 64 L (st) μ n Q := x_aload_n d111_64 hl h
theorem s111_64N {S : Nat × (Nat → Int32)} {L : List (Option Value)} {st : List Value} {n : Nat} {Q : xQ} {μ : xM} (hl : L[0]? = some (some .null)) (h : x_V S 111 65 L (.null :: st) μ n Q) : x_V S 111 64 L st μ n Q := x_aload_nN d111_64 hl h
theorem s111_65 {S : Nat × (Nat → Int32)} {L : List (Option Value)} {st : List Value} {n : Nat} {Q : xQ} {g : Nat → Nat → Int} {a : Nat} (hs : x_sh a = (9, 39)) (hp : x_pt a 8 = none) (ha : a ≠ x_out) (h : x_V S 111 68 L (.int (I (g a 8)) :: st) (x_vm g) n Q) : x_V S 111 65 L (.ref a :: st) (x_vm g) n Q := v_get (i := 8) cf9 d111_65 (by decide) w703 hs hp ha h
theorem s111_68 {S : Nat × (Nat → Int32)} {L : List (Option Value)} {st : List Value} {n : Nat} {Q : xQ} {μ : xM} {x0 : Int32} (hst : st.length ≤ 4) (h : x_V S 102 0 [some (.int x0)] [] μ n (x_bk S 111 68 L st Q)) : x_V S 111 68 L (.int x0 :: st) μ n Q := x_callS (k' := 102) (as := [.int x0]) (na := 1) d111_68 ⟨w824, by decide +kernel, by decide, by decide, by decide, by decide, by decide⟩ w822 w823 w10 (by decide +kernel) rfl (fun v hv => by
    simp only [List.mem_cons, List.not_mem_nil, or_false] at hv
    rcases hv with rfl <;> first | rfl | assumption) hst h
theorem s111_71 {S : Nat × (Nat → Int32)} {L : List (Option Value)} {st : List Value} {n : Nat} {Q : xQ} {μ : xM} {x : Int} (hx : ib x) (kt : x ≠ 0 → x_V S 111 76 L (st) μ n Q) (kf : x = 0 → x_V S 111 74 L (st) μ n Q) : x_V S 111 71 L (.int (I x) :: st) μ n Q := v_if_ne d111_71 (by decide) hx kt kf
theorem s111_74 {S : Nat × (Nat → Int32)} {L : List (Option Value)} {st : List Value} {n : Nat} {Q : xQ} {μ : xM}  (h : x_V S 111 75 L (.int (I 0) :: st) μ n Q) : x_V S 111 74 L (st) μ n Q := x_iconst (by decide +kernel) d111_74 h
theorem s111_75 {S : Nat × (Nat → Int32)} {L : List (Option Value)} {st : List Value} {n : Nat} {Q : xQ} {μ : xM} {v : Int} (hv : v = 0 ∨ v = 1) (h : Q (.inl (some (.int (I v)))) μ n) : x_V S 111 75 L (.int (I v) :: []) μ n Q := v_zreturn d111_75 rfl hv h
theorem s111_76 {S : Nat × (Nat → Int32)} {L : List (Option Value)} {st : List Value} {n : Nat} {Q : xQ} {μ : xM} {a : Nat} (hl : L[0]? = some (some (.ref a))) (h : x_V S 111 77 L (.ref a :: st) μ n Q) : x_V S 111 76 L (st) μ n Q := x_aload_n d111_76 hl h
theorem s111_76N {S : Nat × (Nat → Int32)} {L : List (Option Value)} {st : List Value} {n : Nat} {Q : xQ} {μ : xM} (hl : L[0]? = some (some .null)) (h : x_V S 111 77 L (.null :: st) μ n Q) : x_V S 111 76 L st μ n Q := x_aload_nN d111_76 hl h
theorem s111_77 {S : Nat × (Nat → Int32)} {L : List (Option Value)} {st : List Value} {n : Nat} {Q : xQ} {μ : xM} {a : Nat} (hl : L[0]? = some (some (.ref a))) (h : x_V S 111 78 L (.ref a :: st) μ n Q) : x_V S 111 77 L (st) μ n Q := x_aload_n d111_77 hl h
theorem s111_77N {S : Nat × (Nat → Int32)} {L : List (Option Value)} {st : List Value} {n : Nat} {Q : xQ} {μ : xM} (hl : L[0]? = some (some .null)) (h : x_V S 111 78 L (.null :: st) μ n Q) : x_V S 111 77 L st μ n Q := x_aload_nN d111_77 hl h
theorem s111_78 {S : Nat × (Nat → Int32)} {L : List (Option Value)} {st : List Value} {n : Nat} {Q : xQ} {g : Nat → Nat → Int} {a : Nat} {v : Value} (hs : x_sh a = (9, 39)) (hp : x_pt a 5 = some v) (h : x_V S 111 81 L (v :: st) (x_vm g) n Q) : x_V S 111 78 L (.ref a :: st) (x_vm g) n Q := v_getp (i := 5) cf9 d111_78 (by decide) w700 hs hp h
theorem s111_81 {S : Nat × (Nat → Int32)} {L : List (Option Value)} {st : List Value} {n : Nat} {Q : xQ} {μ : xM}  (h : x_V S 111 82 L (.int (I 4) :: st) μ n Q) : x_V S 111 81 L (st) μ n Q := x_iconst (by decide +kernel) d111_81 h
theorem s111_83 {S : Nat × (Nat → Int32)} {L : List (Option Value)} {st : List Value} {n : Nat} {Q : xQ} {μ : xM}  (h : x_V S 111 85 L (.int (I 43) :: st) μ n Q) : x_V S 111 83 L (st) μ n Q := x_bipush (by decide +kernel) d111_83 h
theorem s111_85 {S : Nat × (Nat → Int32)} {L : List (Option Value)} {st : List Value} {n : Nat} {Q : xQ} {μ : xM} {x y : Int} (hx : ib x) (hy : ib y) (kt : x ≠ y → x_V S 111 92 L (st) μ n Q) (kf : x = y → x_V S 111 88 L (st) μ n Q) : x_V S 111 85 L (.int (I y) :: .int (I x) :: st) μ n Q := v_icmp_ne d111_85 (by decide) hx hy kt kf
theorem s111_88 {S : Nat × (Nat → Int32)} {L : List (Option Value)} {st : List Value} {n : Nat} {Q : xQ} {μ : xM}  (h : x_V S 111 89 L (.int (I 1) :: st) μ n Q) : x_V S 111 88 L (st) μ n Q := x_iconst (by decide +kernel) d111_88 h
theorem s111_89 {S : Nat × (Nat → Int32)} {L : List (Option Value)} {st : List Value} {n : Nat} {Q : xQ} {μ : xM}  (h : x_V S 111 93 L (st) μ n Q) : x_V S 111 89 L (st) μ n Q := x_goto (tgt := 93) (by decide) d111_89 h
theorem s111_92 {S : Nat × (Nat → Int32)} {L : List (Option Value)} {st : List Value} {n : Nat} {Q : xQ} {μ : xM}  (h : x_V S 111 93 L (.int (I 0) :: st) μ n Q) : x_V S 111 92 L (st) μ n Q := x_iconst (by decide +kernel) d111_92 h
theorem s111_93 {S : Nat × (Nat → Int32)} {L : List (Option Value)} {st : List Value} {n : Nat} {Q : xQ} {g : Nat → Nat → Int} {a : Nat} {x : Int} (hs : x_sh a = (9, 39)) (hx : x = 0 ∨ x = 1) (hp : x_pt a 13 = none) (ha : a ≠ x_out) (h : x_V S 111 96 L (st) (x_vm (x_uf g a 13 x)) n Q) : x_V S 111 93 L (.int (I x) :: .ref a :: st) (x_vm g) n Q := v_putz (i := 13) cf9 d111_93 (by decide) rfl w708 hs rfl hx hp ha h
theorem s111_96 {S : Nat × (Nat → Int32)} {L : List (Option Value)} {st : List Value} {n : Nat} {Q : xQ} {μ : xM} {a : Nat} (hl : L[0]? = some (some (.ref a))) (h : x_V S 111 97 L (.ref a :: st) μ n Q) : x_V S 111 96 L (st) μ n Q := x_aload_n d111_96 hl h
theorem s111_96N {S : Nat × (Nat → Int32)} {L : List (Option Value)} {st : List Value} {n : Nat} {Q : xQ} {μ : xM} (hl : L[0]? = some (some .null)) (h : x_V S 111 97 L (.null :: st) μ n Q) : x_V S 111 96 L st μ n Q := x_aload_nN d111_96 hl h
theorem s111_97 {S : Nat × (Nat → Int32)} {L : List (Option Value)} {st : List Value} {n : Nat} {Q : xQ} {g : Nat → Nat → Int} {a : Nat} (hs : x_sh a = (9, 39)) (hp : x_pt a 13 = none) (ha : a ≠ x_out) (h : x_V S 111 100 L (.int (I (g a 13)) :: st) (x_vm g) n Q) : x_V S 111 97 L (.ref a :: st) (x_vm g) n Q := v_get (i := 13) cf9 d111_97 (by decide) w708 hs hp ha h
theorem s111_100 {S : Nat × (Nat → Int32)} {L : List (Option Value)} {st : List Value} {n : Nat} {Q : xQ} {μ : xM} {x : Int} (hx : ib x) (kt : x = 0 → x_V S 111 117 L (st) μ n Q) (kf : x ≠ 0 → x_V S 111 103 L (st) μ n Q) : x_V S 111 100 L (.int (I x) :: st) μ n Q := v_if_eq d111_100 (by decide) hx kt kf
theorem s111_103 {S : Nat × (Nat → Int32)} {L : List (Option Value)} {st : List Value} {n : Nat} {Q : xQ} {μ : xM} {a : Nat} (hl : L[0]? = some (some (.ref a))) (h : x_V S 111 104 L (.ref a :: st) μ n Q) : x_V S 111 103 L (st) μ n Q := x_aload_n d111_103 hl h
theorem s111_103N {S : Nat × (Nat → Int32)} {L : List (Option Value)} {st : List Value} {n : Nat} {Q : xQ} {μ : xM} (hl : L[0]? = some (some .null)) (h : x_V S 111 104 L (.null :: st) μ n Q) : x_V S 111 103 L st μ n Q := x_aload_nN d111_103 hl h
theorem s111_104 {S : Nat × (Nat → Int32)} {L : List (Option Value)} {st : List Value} {n : Nat} {Q : xQ} {μ : xM}  (h : x_V S 111 105 L (.int (I 4) :: st) μ n Q) : x_V S 111 104 L (st) μ n Q := x_iconst (by decide +kernel) d111_104 h
theorem s111_105 {S : Nat × (Nat → Int32)} {L : List (Option Value)} {st : List Value} {n : Nat} {Q : xQ} {μ : xM}  (h : x_V S 111 107 L (.int (I 43) :: st) μ n Q) : x_V S 111 105 L (st) μ n Q := x_bipush (by decide +kernel) d111_105 h
theorem s111_107 {S : Nat × (Nat → Int32)} {L : List (Option Value)} {st : List Value} {n : Nat} {Q : xQ} {μ : xM} {x0 : Int32} {x1 : Int32} {a : Nat} (hs : x_sh a = (9, 39)) (hst : st.length ≤ 4) (h : x_V S 109 0 [some (.ref a), some (.int x0), some (.int x1)] [] μ n (x_bk S 111 107 L st Q)) : x_V S 111 107 L (.int x1 :: .int x0 :: .ref a :: st) μ n Q := x_callV (k' := 109) (as := [.int x0, .int x1]) (na := 2) d111_107 ⟨w908, by decide +kernel, by decide, by decide, by decide, by decide, by decide⟩ cf9 w905 w907 wp37 (by decide +kernel) rfl hs (fun v hv => by
    simp only [List.mem_cons, List.not_mem_nil, or_false] at hv
    rcases hv with rfl | rfl <;> first | rfl | assumption) hst h
theorem s111_110 {S : Nat × (Nat → Int32)} {L : List (Option Value)} {st : List Value} {n : Nat} {Q : xQ} {μ : xM}  (h : x_V S 111 112 L (.int (I 89) :: st) μ n Q) : x_V S 111 110 L (st) μ n Q := x_bipush (by decide +kernel) d111_110 h
theorem s111_112 {S : Nat × (Nat → Int32)} {L : List (Option Value)} {st : List Value} {n : Nat} {Q : xQ} {μ : xM} {x y : Int} (hx : ib x) (hy : ib y) (kt : x = y → x_V S 111 117 L (st) μ n Q) (kf : x ≠ y → x_V S 111 115 L (st) μ n Q) : x_V S 111 112 L (.int (I y) :: .int (I x) :: st) μ n Q := v_icmp_eq d111_112 (by decide) hx hy kt kf
theorem s111_115 {S : Nat × (Nat → Int32)} {L : List (Option Value)} {st : List Value} {n : Nat} {Q : xQ} {μ : xM}  (h : x_V S 111 116 L (.int (I 0) :: st) μ n Q) : x_V S 111 115 L (st) μ n Q := x_iconst (by decide +kernel) d111_115 h
theorem s111_116 {S : Nat × (Nat → Int32)} {L : List (Option Value)} {st : List Value} {n : Nat} {Q : xQ} {μ : xM} {v : Int} (hv : v = 0 ∨ v = 1) (h : Q (.inl (some (.int (I v)))) μ n) : x_V S 111 116 L (.int (I v) :: []) μ n Q := v_zreturn d111_116 rfl hv h
theorem s111_117 {S : Nat × (Nat → Int32)} {L : List (Option Value)} {st : List Value} {n : Nat} {Q : xQ} {μ : xM} {a : Nat} (hl : L[0]? = some (some (.ref a))) (h : x_V S 111 118 L (.ref a :: st) μ n Q) : x_V S 111 117 L (st) μ n Q := x_aload_n d111_117 hl h
theorem s111_117N {S : Nat × (Nat → Int32)} {L : List (Option Value)} {st : List Value} {n : Nat} {Q : xQ} {μ : xM} (hl : L[0]? = some (some .null)) (h : x_V S 111 118 L (.null :: st) μ n Q) : x_V S 111 117 L st μ n Q := x_aload_nN d111_117 hl h
theorem s111_118 {S : Nat × (Nat → Int32)} {L : List (Option Value)} {st : List Value} {n : Nat} {Q : xQ} {g : Nat → Nat → Int} {a : Nat} (hs : x_sh a = (9, 39)) (hp : x_pt a 13 = none) (ha : a ≠ x_out) (h : x_V S 111 121 L (.int (I (g a 13)) :: st) (x_vm g) n Q) : x_V S 111 118 L (.ref a :: st) (x_vm g) n Q := v_get (i := 13) cf9 d111_118 (by decide) w708 hs hp ha h
theorem s111_121 {S : Nat × (Nat → Int32)} {L : List (Option Value)} {st : List Value} {n : Nat} {Q : xQ} {μ : xM} {x : Int} (hx : ib x) (kt : x = 0 → x_V S 111 128 L (st) μ n Q) (kf : x ≠ 0 → x_V S 111 124 L (st) μ n Q) : x_V S 111 121 L (.int (I x) :: st) μ n Q := v_if_eq d111_121 (by decide) hx kt kf
theorem s111_124 {S : Nat × (Nat → Int32)} {L : List (Option Value)} {st : List Value} {n : Nat} {Q : xQ} {μ : xM}  (h : x_V S 111 125 L (.int (I 5) :: st) μ n Q) : x_V S 111 124 L (st) μ n Q := x_iconst (by decide +kernel) d111_124 h
theorem s111_125 {S : Nat × (Nat → Int32)} {L : List (Option Value)} {st : List Value} {n : Nat} {Q : xQ} {μ : xM}  (h : x_V S 111 129 L (st) μ n Q) : x_V S 111 125 L (st) μ n Q := x_goto (tgt := 129) (by decide) d111_125 h
theorem s111_128 {S : Nat × (Nat → Int32)} {L : List (Option Value)} {st : List Value} {n : Nat} {Q : xQ} {μ : xM}  (h : x_V S 111 129 L (.int (I 4) :: st) μ n Q) : x_V S 111 128 L (st) μ n Q := x_iconst (by decide +kernel) d111_128 h
theorem s111_129 {S : Nat × (Nat → Int32)} {L : List (Option Value)} {st : List Value} {n : Nat} {Q : xQ} {μ : xM} {x : Int32} (h : x_V S 111 130 (L.set 1 (some (.int x))) (st) μ n Q) : x_V S 111 129 L (.int x :: st) μ n Q := x_istore_n d111_129 (by decide) h
theorem s111_130 {S : Nat × (Nat → Int32)} {L : List (Option Value)} {st : List Value} {n : Nat} {Q : xQ} {μ : xM} {a : Nat} (hl : L[0]? = some (some (.ref a))) (h : x_V S 111 131 L (.ref a :: st) μ n Q) : x_V S 111 130 L (st) μ n Q := x_aload_n d111_130 hl h
theorem s111_130N {S : Nat × (Nat → Int32)} {L : List (Option Value)} {st : List Value} {n : Nat} {Q : xQ} {μ : xM} (hl : L[0]? = some (some .null)) (h : x_V S 111 131 L (.null :: st) μ n Q) : x_V S 111 130 L st μ n Q := x_aload_nN d111_130 hl h
theorem s111_131 {S : Nat × (Nat → Int32)} {L : List (Option Value)} {st : List Value} {n : Nat} {Q : xQ} {μ : xM}  (h : x_V S 111 132 L (.int (I 0) :: st) μ n Q) : x_V S 111 131 L (st) μ n Q := x_iconst (by decide +kernel) d111_131 h
theorem s111_132 {S : Nat × (Nat → Int32)} {L : List (Option Value)} {st : List Value} {n : Nat} {Q : xQ} {g : Nat → Nat → Int} {a : Nat} {x : Int} (hs : x_sh a = (9, 39)) (hp : x_pt a 10 = none) (ha : a ≠ x_out) (h : x_V S 111 135 L (st) (x_vm (x_uf g a 10 x)) n Q) : x_V S 111 132 L (.int (I x) :: .ref a :: st) (x_vm g) n Q := v_put (i := 10) cf9 d111_132 (by decide) rfl w705 hs rfl hp ha h
theorem s111_135 {S : Nat × (Nat → Int32)} {L : List (Option Value)} {st : List Value} {n : Nat} {Q : xQ} {μ : xM} {a : Nat} (hl : L[0]? = some (some (.ref a))) (h : x_V S 111 136 L (.ref a :: st) μ n Q) : x_V S 111 135 L (st) μ n Q := x_aload_n d111_135 hl h
theorem s111_135N {S : Nat × (Nat → Int32)} {L : List (Option Value)} {st : List Value} {n : Nat} {Q : xQ} {μ : xM} (hl : L[0]? = some (some .null)) (h : x_V S 111 136 L (.null :: st) μ n Q) : x_V S 111 135 L st μ n Q := x_aload_nN d111_135 hl h
theorem s111_136 {S : Nat × (Nat → Int32)} {L : List (Option Value)} {st : List Value} {n : Nat} {Q : xQ} {μ : xM}  (h : x_V S 111 137 L (.int (I 0) :: st) μ n Q) : x_V S 111 136 L (st) μ n Q := x_iconst (by decide +kernel) d111_136 h
theorem s111_137 {S : Nat × (Nat → Int32)} {L : List (Option Value)} {st : List Value} {n : Nat} {Q : xQ} {g : Nat → Nat → Int} {a : Nat} {x : Int} (hs : x_sh a = (9, 39)) (hp : x_pt a 11 = none) (ha : a ≠ x_out) (h : x_V S 111 140 L (st) (x_vm (x_uf g a 11 x)) n Q) : x_V S 111 137 L (.int (I x) :: .ref a :: st) (x_vm g) n Q := v_put (i := 11) cf9 d111_137 (by decide) rfl w706 hs rfl hp ha h
theorem s111_140 {S : Nat × (Nat → Int32)} {L : List (Option Value)} {st : List Value} {n : Nat} {Q : xQ} {μ : xM} {a : Nat} (hl : L[0]? = some (some (.ref a))) (h : x_V S 111 141 L (.ref a :: st) μ n Q) : x_V S 111 140 L (st) μ n Q := x_aload_n d111_140 hl h
theorem s111_140N {S : Nat × (Nat → Int32)} {L : List (Option Value)} {st : List Value} {n : Nat} {Q : xQ} {μ : xM} (hl : L[0]? = some (some .null)) (h : x_V S 111 141 L (.null :: st) μ n Q) : x_V S 111 140 L st μ n Q := x_aload_nN d111_140 hl h
theorem s111_141 {S : Nat × (Nat → Int32)} {L : List (Option Value)} {st : List Value} {n : Nat} {Q : xQ} {μ : xM}  (h : x_V S 111 142 L (.int (I 0) :: st) μ n Q) : x_V S 111 141 L (st) μ n Q := x_iconst (by decide +kernel) d111_141 h
theorem s111_142 {S : Nat × (Nat → Int32)} {L : List (Option Value)} {st : List Value} {n : Nat} {Q : xQ} {g : Nat → Nat → Int} {a : Nat} {x : Int} (hs : x_sh a = (9, 39)) (hp : x_pt a 12 = none) (ha : a ≠ x_out) (h : x_V S 111 145 L (st) (x_vm (x_uf g a 12 x)) n Q) : x_V S 111 142 L (.int (I x) :: .ref a :: st) (x_vm g) n Q := v_put (i := 12) cf9 d111_142 (by decide) rfl w707 hs rfl hp ha h
theorem s111_145 {S : Nat × (Nat → Int32)} {L : List (Option Value)} {st : List Value} {n : Nat} {Q : xQ} {μ : xM} {a : Nat} (hl : L[0]? = some (some (.ref a))) (h : x_V S 111 146 L (.ref a :: st) μ n Q) : x_V S 111 145 L (st) μ n Q := x_aload_n d111_145 hl h
theorem s111_145N {S : Nat × (Nat → Int32)} {L : List (Option Value)} {st : List Value} {n : Nat} {Q : xQ} {μ : xM} (hl : L[0]? = some (some .null)) (h : x_V S 111 146 L (.null :: st) μ n Q) : x_V S 111 145 L st μ n Q := x_aload_nN d111_145 hl h
theorem s111_146 {S : Nat × (Nat → Int32)} {L : List (Option Value)} {st : List Value} {n : Nat} {Q : xQ} {μ : xM} {x : Int32} (hl : L[1]? = some (some (.int x))) (h : x_V S 111 147 L (.int x :: st) μ n Q) : x_V S 111 146 L (st) μ n Q := x_iload_n d111_146 hl h
theorem s111_147 {S : Nat × (Nat → Int32)} {L : List (Option Value)} {st : List Value} {n : Nat} {Q : xQ} {μ : xM} {a : Nat} (hl : L[0]? = some (some (.ref a))) (h : x_V S 111 148 L (.ref a :: st) μ n Q) : x_V S 111 147 L (st) μ n Q := x_aload_n d111_147 hl h
theorem s111_147N {S : Nat × (Nat → Int32)} {L : List (Option Value)} {st : List Value} {n : Nat} {Q : xQ} {μ : xM} (hl : L[0]? = some (some .null)) (h : x_V S 111 148 L (.null :: st) μ n Q) : x_V S 111 147 L st μ n Q := x_aload_nN d111_147 hl h
theorem s111_148 {S : Nat × (Nat → Int32)} {L : List (Option Value)} {st : List Value} {n : Nat} {Q : xQ} {g : Nat → Nat → Int} {a : Nat} (hs : x_sh a = (9, 39)) (hp : x_pt a 4 = none) (ha : a ≠ x_out) (h : x_V S 111 151 L (.int (I (g a 4)) :: st) (x_vm g) n Q) : x_V S 111 148 L (.ref a :: st) (x_vm g) n Q := v_get (i := 4) cf9 d111_148 (by decide) w699 hs hp ha h
theorem s111_151 {S : Nat × (Nat → Int32)} {L : List (Option Value)} {st : List Value} {n : Nat} {Q : xQ} {μ : xM}  (h : x_V S 111 152 L (.int (I 1) :: st) μ n Q) : x_V S 111 151 L (st) μ n Q := x_iconst (by decide +kernel) d111_151 h
theorem s111_152 {S : Nat × (Nat → Int32)} {L : List (Option Value)} {st : List Value} {n : Nat} {Q : xQ} {μ : xM} {x y : Int} (h : x_V S 111 153 L (.int (I (x - y)) :: st) μ n Q) : x_V S 111 152 L (.int (I y) :: .int (I x) :: st) μ n Q := v_isub d111_152 h
theorem s111_153 {S : Nat × (Nat → Int32)} {L : List (Option Value)} {st : List Value} {n : Nat} {Q : xQ} {μ : xM} {x y : Int} (hx : ib x) (hy : ib y) (kt : y ≤ x → x_V S 111 160 L (st) μ n Q) (kf : x < y → x_V S 111 156 L (st) μ n Q) : x_V S 111 153 L (.int (I y) :: .int (I x) :: st) μ n Q := v_icmp_ge d111_153 (by decide) hx hy kt kf
theorem s111_156 {S : Nat × (Nat → Int32)} {L : List (Option Value)} {st : List Value} {n : Nat} {Q : xQ} {μ : xM}  (h : x_V S 111 157 L (.int (I 1) :: st) μ n Q) : x_V S 111 156 L (st) μ n Q := x_iconst (by decide +kernel) d111_156 h
theorem s111_157 {S : Nat × (Nat → Int32)} {L : List (Option Value)} {st : List Value} {n : Nat} {Q : xQ} {μ : xM}  (h : x_V S 111 161 L (st) μ n Q) : x_V S 111 157 L (st) μ n Q := x_goto (tgt := 161) (by decide) d111_157 h
theorem s111_160 {S : Nat × (Nat → Int32)} {L : List (Option Value)} {st : List Value} {n : Nat} {Q : xQ} {μ : xM}  (h : x_V S 111 161 L (.int (I 0) :: st) μ n Q) : x_V S 111 160 L (st) μ n Q := x_iconst (by decide +kernel) d111_160 h
theorem s111_161 {S : Nat × (Nat → Int32)} {L : List (Option Value)} {st : List Value} {n : Nat} {Q : xQ} {g : Nat → Nat → Int} {a : Nat} {x : Int} (hs : x_sh a = (9, 39)) (hx : x = 0 ∨ x = 1) (hp : x_pt a 14 = none) (ha : a ≠ x_out) (h : x_V S 111 164 L (st) (x_vm (x_uf g a 14 x)) n Q) : x_V S 111 161 L (.int (I x) :: .ref a :: st) (x_vm g) n Q := v_putz (i := 14) cf9 d111_161 (by decide) rfl w709 hs rfl hx hp ha h
theorem s111_164 {S : Nat × (Nat → Int32)} {L : List (Option Value)} {st : List Value} {n : Nat} {Q : xQ} {μ : xM} {a : Nat} (hl : L[0]? = some (some (.ref a))) (h : x_V S 111 165 L (.ref a :: st) μ n Q) : x_V S 111 164 L (st) μ n Q := x_aload_n d111_164 hl h
theorem s111_164N {S : Nat × (Nat → Int32)} {L : List (Option Value)} {st : List Value} {n : Nat} {Q : xQ} {μ : xM} (hl : L[0]? = some (some .null)) (h : x_V S 111 165 L (.null :: st) μ n Q) : x_V S 111 164 L st μ n Q := x_aload_nN d111_164 hl h
theorem s111_165 {S : Nat × (Nat → Int32)} {L : List (Option Value)} {st : List Value} {n : Nat} {Q : xQ} {g : Nat → Nat → Int} {a : Nat} (hs : x_sh a = (9, 39)) (hp : x_pt a 8 = none) (ha : a ≠ x_out) (h : x_V S 111 168 L (.int (I (g a 8)) :: st) (x_vm g) n Q) : x_V S 111 165 L (.ref a :: st) (x_vm g) n Q := v_get (i := 8) cf9 d111_165 (by decide) w703 hs hp ha h
theorem s111_168 {S : Nat × (Nat → Int32)} {L : List (Option Value)} {st : List Value} {n : Nat} {Q : xQ} {μ : xM}  (h : x_V S 111 170 L (.int (I 48) :: st) μ n Q) : x_V S 111 168 L (st) μ n Q := x_bipush (by decide +kernel) d111_168 h
theorem s111_170 {S : Nat × (Nat → Int32)} {L : List (Option Value)} {st : List Value} {n : Nat} {Q : xQ} {μ : xM} {x y : Int} (hx : ib x) (hy : ib y) (kt : x ≠ y → x_V S 111 182 L (st) μ n Q) (kf : x = y → x_V S 111 173 L (st) μ n Q) : x_V S 111 170 L (.int (I y) :: .int (I x) :: st) μ n Q := v_icmp_ne d111_170 (by decide) hx hy kt kf
theorem s111_173 {S : Nat × (Nat → Int32)} {L : List (Option Value)} {st : List Value} {n : Nat} {Q : xQ} {μ : xM} {a : Nat} (hl : L[0]? = some (some (.ref a))) (h : x_V S 111 174 L (.ref a :: st) μ n Q) : x_V S 111 173 L (st) μ n Q := x_aload_n d111_173 hl h
theorem s111_173N {S : Nat × (Nat → Int32)} {L : List (Option Value)} {st : List Value} {n : Nat} {Q : xQ} {μ : xM} (hl : L[0]? = some (some .null)) (h : x_V S 111 174 L (.null :: st) μ n Q) : x_V S 111 173 L st μ n Q := x_aload_nN d111_173 hl h
theorem s111_174 {S : Nat × (Nat → Int32)} {L : List (Option Value)} {st : List Value} {n : Nat} {Q : xQ} {g : Nat → Nat → Int} {a : Nat} (hs : x_sh a = (9, 39)) (hp : x_pt a 14 = none) (ha : a ≠ x_out) (h : x_V S 111 177 L (.int (I (g a 14)) :: st) (x_vm g) n Q) : x_V S 111 174 L (.ref a :: st) (x_vm g) n Q := v_get (i := 14) cf9 d111_174 (by decide) w709 hs hp ha h
theorem s111_177 {S : Nat × (Nat → Int32)} {L : List (Option Value)} {st : List Value} {n : Nat} {Q : xQ} {μ : xM} {x : Int} (hx : ib x) (kt : x ≠ 0 → x_V S 111 182 L (st) μ n Q) (kf : x = 0 → x_V S 111 180 L (st) μ n Q) : x_V S 111 177 L (.int (I x) :: st) μ n Q := v_if_ne d111_177 (by decide) hx kt kf
theorem s111_180 {S : Nat × (Nat → Int32)} {L : List (Option Value)} {st : List Value} {n : Nat} {Q : xQ} {μ : xM}  (h : x_V S 111 181 L (.int (I 1) :: st) μ n Q) : x_V S 111 180 L (st) μ n Q := x_iconst (by decide +kernel) d111_180 h
theorem s111_181 {S : Nat × (Nat → Int32)} {L : List (Option Value)} {st : List Value} {n : Nat} {Q : xQ} {μ : xM} {v : Int} (hv : v = 0 ∨ v = 1) (h : Q (.inl (some (.int (I v)))) μ n) : x_V S 111 181 L (.int (I v) :: []) μ n Q := v_zreturn d111_181 rfl hv h
theorem s111_182 {S : Nat × (Nat → Int32)} {L : List (Option Value)} {st : List Value} {n : Nat} {Q : xQ} {μ : xM}  (h : x_V S 111 183 L (.int (I 1) :: st) μ n Q) : x_V S 111 182 L (st) μ n Q := x_iconst (by decide +kernel) d111_182 h
theorem s111_183 {S : Nat × (Nat → Int32)} {L : List (Option Value)} {st : List Value} {n : Nat} {Q : xQ} {μ : xM} {x : Int32} (h : x_V S 111 184 (L.set 2 (some (.int x))) (st) μ n Q) : x_V S 111 183 L (.int x :: st) μ n Q := x_istore_n d111_183 (by decide) h
theorem s111_184 {S : Nat × (Nat → Int32)} {L : List (Option Value)} {st : List Value} {n : Nat} {Q : xQ} {μ : xM}  (h : x_V S 111 185 L (.int (I 0) :: st) μ n Q) : x_V S 111 184 L (st) μ n Q := x_iconst (by decide +kernel) d111_184 h
theorem s111_185 {S : Nat × (Nat → Int32)} {L : List (Option Value)} {st : List Value} {n : Nat} {Q : xQ} {μ : xM} {x : Int32} (h : x_V S 111 186 (L.set 3 (some (.int x))) (st) μ n Q) : x_V S 111 185 L (.int x :: st) μ n Q := x_istore_n d111_185 (by decide) h
theorem s111_186 {S : Nat × (Nat → Int32)} {L : List (Option Value)} {st : List Value} {n : Nat} {Q : xQ} {μ : xM} {x : Int32} (hl : L[3]? = some (some (.int x))) (h : x_V S 111 187 L (.int x :: st) μ n Q) : x_V S 111 186 L (st) μ n Q := x_iload_n d111_186 hl h
theorem s111_187 {S : Nat × (Nat → Int32)} {L : List (Option Value)} {st : List Value} {n : Nat} {Q : xQ} {μ : xM}  (h : x_V S 111 188 L (.int (I 3) :: st) μ n Q) : x_V S 111 187 L (st) μ n Q := x_iconst (by decide +kernel) d111_187 h
theorem s111_188 {S : Nat × (Nat → Int32)} {L : List (Option Value)} {st : List Value} {n : Nat} {Q : xQ} {μ : xM} {x y : Int} (hx : ib x) (hy : ib y) (kt : y ≤ x → x_V S 111 343 L (st) μ n Q) (kf : x < y → x_V S 111 191 L (st) μ n Q) : x_V S 111 188 L (.int (I y) :: .int (I x) :: st) μ n Q := v_icmp_ge d111_188 (by decide) hx hy kt kf
theorem s111_191 {S : Nat × (Nat → Int32)} {L : List (Option Value)} {st : List Value} {n : Nat} {Q : xQ} {μ : xM} {a : Nat} (hl : L[0]? = some (some (.ref a))) (h : x_V S 111 192 L (.ref a :: st) μ n Q) : x_V S 111 191 L (st) μ n Q := x_aload_n d111_191 hl h
theorem s111_191N {S : Nat × (Nat → Int32)} {L : List (Option Value)} {st : List Value} {n : Nat} {Q : xQ} {μ : xM} (hl : L[0]? = some (some .null)) (h : x_V S 111 192 L (.null :: st) μ n Q) : x_V S 111 191 L st μ n Q := x_aload_nN d111_191 hl h
theorem s111_192 {S : Nat × (Nat → Int32)} {L : List (Option Value)} {st : List Value} {n : Nat} {Q : xQ} {g : Nat → Nat → Int} {a : Nat} (hs : x_sh a = (9, 39)) (hp : x_pt a 8 = none) (ha : a ≠ x_out) (h : x_V S 111 195 L (.int (I (g a 8)) :: st) (x_vm g) n Q) : x_V S 111 192 L (.ref a :: st) (x_vm g) n Q := v_get (i := 8) cf9 d111_192 (by decide) w703 hs hp ha h
theorem s111_195 {S : Nat × (Nat → Int32)} {L : List (Option Value)} {st : List Value} {n : Nat} {Q : xQ} {μ : xM} {x : Int32} (hl : L[3]? = some (some (.int x))) (h : x_V S 111 196 L (.int x :: st) μ n Q) : x_V S 111 195 L (st) μ n Q := x_iload_n d111_195 hl h
theorem s111_196 {S : Nat × (Nat → Int32)} {L : List (Option Value)} {st : List Value} {n : Nat} {Q : xQ} {μ : xM} {x0 : Int32} {x1 : Int32} (hst : st.length ≤ 4) (h : x_V S 95 0 [some (.int x0), some (.int x1)] [] μ n (x_bk S 111 196 L st Q)) : x_V S 111 196 L (.int x1 :: .int x0 :: st) μ n Q := x_callS (k' := 95) (as := [.int x0, .int x1]) (na := 2) d111_196 ⟨w861, by decide +kernel, by decide, by decide, by decide, by decide, by decide⟩ w859 w860 w10 (by decide +kernel) rfl (fun v hv => by
    simp only [List.mem_cons, List.not_mem_nil, or_false] at hv
    rcases hv with rfl | rfl <;> first | rfl | assumption) hst h
theorem s111_199 {S : Nat × (Nat → Int32)} {L : List (Option Value)} {st : List Value} {n : Nat} {Q : xQ} {μ : xM} {x : Int32} (h : x_V S 111 201 (L.set 4 (some (.int x))) (st) μ n Q) : x_V S 111 199 L (.int x :: st) μ n Q := x_istore d111_199 (by decide) h
theorem s111_201 {S : Nat × (Nat → Int32)} {L : List (Option Value)} {st : List Value} {n : Nat} {Q : xQ} {μ : xM} {x : Int32} (hl : L[4]? = some (some (.int x))) (h : x_V S 111 203 L (.int x :: st) μ n Q) : x_V S 111 201 L (st) μ n Q := x_iload d111_201 hl h
theorem s111_203 {S : Nat × (Nat → Int32)} {L : List (Option Value)} {st : List Value} {n : Nat} {Q : xQ} {μ : xM} {x : Int} (hx : ib x) (kt : x ≤ 0 → x_V S 111 337 L (st) μ n Q) (kf : 0 < x → x_V S 111 206 L (st) μ n Q) : x_V S 111 203 L (.int (I x) :: st) μ n Q := v_if_le d111_203 (by decide) hx kt kf
theorem s111_206 {S : Nat × (Nat → Int32)} {L : List (Option Value)} {st : List Value} {n : Nat} {Q : xQ} {μ : xM} {a : Nat} (hl : L[0]? = some (some (.ref a))) (h : x_V S 111 207 L (.ref a :: st) μ n Q) : x_V S 111 206 L (st) μ n Q := x_aload_n d111_206 hl h
theorem s111_206N {S : Nat × (Nat → Int32)} {L : List (Option Value)} {st : List Value} {n : Nat} {Q : xQ} {μ : xM} (hl : L[0]? = some (some .null)) (h : x_V S 111 207 L (.null :: st) μ n Q) : x_V S 111 206 L st μ n Q := x_aload_nN d111_206 hl h
theorem s111_207 {S : Nat × (Nat → Int32)} {L : List (Option Value)} {st : List Value} {n : Nat} {Q : xQ} {g : Nat → Nat → Int} {a : Nat} (hs : x_sh a = (9, 39)) (hp : x_pt a 8 = none) (ha : a ≠ x_out) (h : x_V S 111 210 L (.int (I (g a 8)) :: st) (x_vm g) n Q) : x_V S 111 207 L (.ref a :: st) (x_vm g) n Q := v_get (i := 8) cf9 d111_207 (by decide) w703 hs hp ha h
theorem s111_210 {S : Nat × (Nat → Int32)} {L : List (Option Value)} {st : List Value} {n : Nat} {Q : xQ} {μ : xM}  (h : x_V S 111 212 L (.int (I 52) :: st) μ n Q) : x_V S 111 210 L (st) μ n Q := x_bipush (by decide +kernel) d111_210 h
theorem s111_212 {S : Nat × (Nat → Int32)} {L : List (Option Value)} {st : List Value} {n : Nat} {Q : xQ} {μ : xM} {x y : Int} (hx : ib x) (hy : ib y) (kt : x ≠ y → x_V S 111 230 L (st) μ n Q) (kf : x = y → x_V S 111 215 L (st) μ n Q) : x_V S 111 212 L (.int (I y) :: .int (I x) :: st) μ n Q := v_icmp_ne d111_212 (by decide) hx hy kt kf
theorem s111_215 {S : Nat × (Nat → Int32)} {L : List (Option Value)} {st : List Value} {n : Nat} {Q : xQ} {μ : xM} {x : Int32} (hl : L[3]? = some (some (.int x))) (h : x_V S 111 216 L (.int x :: st) μ n Q) : x_V S 111 215 L (st) μ n Q := x_iload_n d111_215 hl h
theorem s111_216 {S : Nat × (Nat → Int32)} {L : List (Option Value)} {st : List Value} {n : Nat} {Q : xQ} {μ : xM}  (h : x_V S 111 217 L (.int (I 1) :: st) μ n Q) : x_V S 111 216 L (st) μ n Q := x_iconst (by decide +kernel) d111_216 h
theorem s111_217 {S : Nat × (Nat → Int32)} {L : List (Option Value)} {st : List Value} {n : Nat} {Q : xQ} {μ : xM} {x y : Int} (hx : ib x) (hy : ib y) (kt : x ≠ y → x_V S 111 230 L (st) μ n Q) (kf : x = y → x_V S 111 220 L (st) μ n Q) : x_V S 111 217 L (.int (I y) :: .int (I x) :: st) μ n Q := v_icmp_ne d111_217 (by decide) hx hy kt kf
theorem s111_220 {S : Nat × (Nat → Int32)} {L : List (Option Value)} {st : List Value} {n : Nat} {Q : xQ} {μ : xM} {a : Nat} (hl : L[0]? = some (some (.ref a))) (h : x_V S 111 221 L (.ref a :: st) μ n Q) : x_V S 111 220 L (st) μ n Q := x_aload_n d111_220 hl h
theorem s111_220N {S : Nat × (Nat → Int32)} {L : List (Option Value)} {st : List Value} {n : Nat} {Q : xQ} {μ : xM} (hl : L[0]? = some (some .null)) (h : x_V S 111 221 L (.null :: st) μ n Q) : x_V S 111 220 L st μ n Q := x_aload_nN d111_220 hl h
theorem s111_221 {S : Nat × (Nat → Int32)} {L : List (Option Value)} {st : List Value} {n : Nat} {Q : xQ} {μ : xM} {x : Int32} (hl : L[1]? = some (some (.int x))) (h : x_V S 111 222 L (.int x :: st) μ n Q) : x_V S 111 221 L (st) μ n Q := x_iload_n d111_221 hl h
theorem s111_222 {S : Nat × (Nat → Int32)} {L : List (Option Value)} {st : List Value} {n : Nat} {Q : xQ} {μ : xM} {x : Int32} (hl : L[4]? = some (some (.int x))) (h : x_V S 111 224 L (.int x :: st) μ n Q) : x_V S 111 222 L (st) μ n Q := x_iload d111_222 hl h
theorem s111_224 {S : Nat × (Nat → Int32)} {L : List (Option Value)} {st : List Value} {n : Nat} {Q : xQ} {μ : xM} {x0 : Int32} {x1 : Int32} {a : Nat} (hs : x_sh a = (9, 39)) (hst : st.length ≤ 4) (h : x_V S 109 0 [some (.ref a), some (.int x0), some (.int x1)] [] μ n (x_bk S 111 224 L st Q)) : x_V S 111 224 L (.int x1 :: .int x0 :: .ref a :: st) μ n Q := x_callV (k' := 109) (as := [.int x0, .int x1]) (na := 2) d111_224 ⟨w908, by decide +kernel, by decide, by decide, by decide, by decide, by decide⟩ cf9 w905 w907 wp37 (by decide +kernel) rfl hs (fun v hv => by
    simp only [List.mem_cons, List.not_mem_nil, or_false] at hv
    rcases hv with rfl | rfl <;> first | rfl | assumption) hst h
theorem s111_227 {S : Nat × (Nat → Int32)} {L : List (Option Value)} {st : List Value} {n : Nat} {Q : xQ} {μ : xM}  (h : x_V S 111 237 L (st) μ n Q) : x_V S 111 227 L (st) μ n Q := x_goto (tgt := 237) (by decide) d111_227 h
theorem s111_230 {S : Nat × (Nat → Int32)} {L : List (Option Value)} {st : List Value} {n : Nat} {Q : xQ} {μ : xM} {a : Nat} (hl : L[0]? = some (some (.ref a))) (h : x_V S 111 231 L (.ref a :: st) μ n Q) : x_V S 111 230 L (st) μ n Q := x_aload_n d111_230 hl h
theorem s111_230N {S : Nat × (Nat → Int32)} {L : List (Option Value)} {st : List Value} {n : Nat} {Q : xQ} {μ : xM} (hl : L[0]? = some (some .null)) (h : x_V S 111 231 L (.null :: st) μ n Q) : x_V S 111 230 L st μ n Q := x_aload_nN d111_230 hl h
theorem s111_231 {S : Nat × (Nat → Int32)} {L : List (Option Value)} {st : List Value} {n : Nat} {Q : xQ} {μ : xM} {x : Int32} (hl : L[1]? = some (some (.int x))) (h : x_V S 111 232 L (.int x :: st) μ n Q) : x_V S 111 231 L (st) μ n Q := x_iload_n d111_231 hl h
theorem s111_232 {S : Nat × (Nat → Int32)} {L : List (Option Value)} {st : List Value} {n : Nat} {Q : xQ} {μ : xM} {x : Int32} (hl : L[4]? = some (some (.int x))) (h : x_V S 111 234 L (.int x :: st) μ n Q) : x_V S 111 232 L (st) μ n Q := x_iload d111_232 hl h
theorem s111_234 {S : Nat × (Nat → Int32)} {L : List (Option Value)} {st : List Value} {n : Nat} {Q : xQ} {μ : xM} {x0 : Int32} {x1 : Int32} {a : Nat} (hs : x_sh a = (9, 39)) (hst : st.length ≤ 4) (h : x_V S 108 0 [some (.ref a), some (.int x0), some (.int x1), none, none] [] μ n (x_bk S 111 234 L st Q)) : x_V S 111 234 L (.int x1 :: .int x0 :: .ref a :: st) μ n Q := x_callV (k' := 108) (as := [.int x0, .int x1]) (na := 2) d111_234 ⟨w904, by decide +kernel, by decide, by decide, by decide, by decide, by decide⟩ cf9 w901 w903 wp36 (by decide +kernel) rfl hs (fun v hv => by
    simp only [List.mem_cons, List.not_mem_nil, or_false] at hv
    rcases hv with rfl | rfl <;> first | rfl | assumption) hst h
theorem s111_237 {S : Nat × (Nat → Int32)} {L : List (Option Value)} {st : List Value} {n : Nat} {Q : xQ} {μ : xM} {x : Int32} (h : x_V S 111 239 (L.set 5 (some (.int x))) (st) μ n Q) : x_V S 111 237 L (.int x :: st) μ n Q := x_istore d111_237 (by decide) h
theorem s111_239 {S : Nat × (Nat → Int32)} {L : List (Option Value)} {st : List Value} {n : Nat} {Q : xQ} {μ : xM} {x : Int32} (hl : L[2]? = some (some (.int x))) (h : x_V S 111 240 L (.int x :: st) μ n Q) : x_V S 111 239 L (st) μ n Q := x_iload_n d111_239 hl h
theorem s111_240 {S : Nat × (Nat → Int32)} {L : List (Option Value)} {st : List Value} {n : Nat} {Q : xQ} {μ : xM} {x : Int} (hx : ib x) (kt : x = 0 → x_V S 111 279 L (st) μ n Q) (kf : x ≠ 0 → x_V S 111 243 L (st) μ n Q) : x_V S 111 240 L (.int (I x) :: st) μ n Q := v_if_eq d111_240 (by decide) hx kt kf
theorem s111_243 {S : Nat × (Nat → Int32)} {L : List (Option Value)} {st : List Value} {n : Nat} {Q : xQ} {μ : xM} {x : Int32} (hl : L[5]? = some (some (.int x))) (h : x_V S 111 245 L (.int x :: st) μ n Q) : x_V S 111 243 L (st) μ n Q := x_iload d111_243 hl h
theorem s111_245 {S : Nat × (Nat → Int32)} {L : List (Option Value)} {st : List Value} {n : Nat} {Q : xQ} {μ : xM} {x : Int} (hx : ib x) (kt : x < 0 → x_V S 111 279 L (st) μ n Q) (kf : 0 ≤ x → x_V S 111 248 L (st) μ n Q) : x_V S 111 245 L (.int (I x) :: st) μ n Q := v_if_lt d111_245 (by decide) hx kt kf
theorem s111_248 {S : Nat × (Nat → Int32)} {L : List (Option Value)} {st : List Value} {n : Nat} {Q : xQ} {μ : xM} {a : Nat} (hl : L[0]? = some (some (.ref a))) (h : x_V S 111 249 L (.ref a :: st) μ n Q) : x_V S 111 248 L (st) μ n Q := x_aload_n d111_248 hl h
theorem s111_248N {S : Nat × (Nat → Int32)} {L : List (Option Value)} {st : List Value} {n : Nat} {Q : xQ} {μ : xM} (hl : L[0]? = some (some .null)) (h : x_V S 111 249 L (.null :: st) μ n Q) : x_V S 111 248 L st μ n Q := x_aload_nN d111_248 hl h
theorem s111_249 {S : Nat × (Nat → Int32)} {L : List (Option Value)} {st : List Value} {n : Nat} {Q : xQ} {g : Nat → Nat → Int} {a : Nat} (hs : x_sh a = (9, 39)) (hp : x_pt a 8 = none) (ha : a ≠ x_out) (h : x_V S 111 252 L (.int (I (g a 8)) :: st) (x_vm g) n Q) : x_V S 111 249 L (.ref a :: st) (x_vm g) n Q := v_get (i := 8) cf9 d111_249 (by decide) w703 hs hp ha h
theorem s111_252 {S : Nat × (Nat → Int32)} {L : List (Option Value)} {st : List Value} {n : Nat} {Q : xQ} {μ : xM}  (h : x_V S 111 254 L (.int (I 52) :: st) μ n Q) : x_V S 111 252 L (st) μ n Q := x_bipush (by decide +kernel) d111_252 h
theorem s111_254 {S : Nat × (Nat → Int32)} {L : List (Option Value)} {st : List Value} {n : Nat} {Q : xQ} {μ : xM} {x y : Int} (hx : ib x) (hy : ib y) (kt : x ≠ y → x_V S 111 275 L (st) μ n Q) (kf : x = y → x_V S 111 257 L (st) μ n Q) : x_V S 111 254 L (.int (I y) :: .int (I x) :: st) μ n Q := v_icmp_ne d111_254 (by decide) hx hy kt kf
theorem s111_257 {S : Nat × (Nat → Int32)} {L : List (Option Value)} {st : List Value} {n : Nat} {Q : xQ} {μ : xM} {x : Int32} (hl : L[3]? = some (some (.int x))) (h : x_V S 111 258 L (.int x :: st) μ n Q) : x_V S 111 257 L (st) μ n Q := x_iload_n d111_257 hl h
theorem s111_258 {S : Nat × (Nat → Int32)} {L : List (Option Value)} {st : List Value} {n : Nat} {Q : xQ} {μ : xM} {x : Int} (hx : ib x) (kt : x = 0 → x_V S 111 275 L (st) μ n Q) (kf : x ≠ 0 → x_V S 111 261 L (st) μ n Q) : x_V S 111 258 L (.int (I x) :: st) μ n Q := v_if_eq d111_258 (by decide) hx kt kf
theorem s111_261 {S : Nat × (Nat → Int32)} {L : List (Option Value)} {st : List Value} {n : Nat} {Q : xQ} {μ : xM} {x : Int32} (hl : L[5]? = some (some (.int x))) (h : x_V S 111 263 L (.int x :: st) μ n Q) : x_V S 111 261 L (st) μ n Q := x_iload d111_261 hl h
theorem s111_263 {S : Nat × (Nat → Int32)} {L : List (Option Value)} {st : List Value} {n : Nat} {Q : xQ} {μ : xM}  (h : x_V S 111 265 L (.int (I 89) :: st) μ n Q) : x_V S 111 263 L (st) μ n Q := x_bipush (by decide +kernel) d111_263 h
theorem s111_265 {S : Nat × (Nat → Int32)} {L : List (Option Value)} {st : List Value} {n : Nat} {Q : xQ} {μ : xM} {x y : Int} (hx : ib x) (hy : ib y) (kt : x = y → x_V S 111 275 L (st) μ n Q) (kf : x ≠ y → x_V S 111 268 L (st) μ n Q) : x_V S 111 265 L (.int (I y) :: .int (I x) :: st) μ n Q := v_icmp_eq d111_265 (by decide) hx hy kt kf
theorem s111_268 {S : Nat × (Nat → Int32)} {L : List (Option Value)} {st : List Value} {n : Nat} {Q : xQ} {μ : xM} {x : Int32} (hl : L[5]? = some (some (.int x))) (h : x_V S 111 270 L (.int x :: st) μ n Q) : x_V S 111 268 L (st) μ n Q := x_iload d111_268 hl h
theorem s111_270 {S : Nat × (Nat → Int32)} {L : List (Option Value)} {st : List Value} {n : Nat} {Q : xQ} {μ : xM}  (h : x_V S 111 272 L (.int (I 78) :: st) μ n Q) : x_V S 111 270 L (st) μ n Q := x_bipush (by decide +kernel) d111_270 h
theorem s111_272 {S : Nat × (Nat → Int32)} {L : List (Option Value)} {st : List Value} {n : Nat} {Q : xQ} {μ : xM} {x y : Int} (hx : ib x) (hy : ib y) (kt : x ≠ y → x_V S 111 279 L (st) μ n Q) (kf : x = y → x_V S 111 275 L (st) μ n Q) : x_V S 111 272 L (.int (I y) :: .int (I x) :: st) μ n Q := v_icmp_ne d111_272 (by decide) hx hy kt kf
theorem s111_275 {S : Nat × (Nat → Int32)} {L : List (Option Value)} {st : List Value} {n : Nat} {Q : xQ} {μ : xM}  (h : x_V S 111 276 L (.int (I 1) :: st) μ n Q) : x_V S 111 275 L (st) μ n Q := x_iconst (by decide +kernel) d111_275 h
theorem s111_276 {S : Nat × (Nat → Int32)} {L : List (Option Value)} {st : List Value} {n : Nat} {Q : xQ} {μ : xM}  (h : x_V S 111 280 L (st) μ n Q) : x_V S 111 276 L (st) μ n Q := x_goto (tgt := 280) (by decide) d111_276 h
theorem s111_279 {S : Nat × (Nat → Int32)} {L : List (Option Value)} {st : List Value} {n : Nat} {Q : xQ} {μ : xM}  (h : x_V S 111 280 L (.int (I 0) :: st) μ n Q) : x_V S 111 279 L (st) μ n Q := x_iconst (by decide +kernel) d111_279 h
theorem s111_280 {S : Nat × (Nat → Int32)} {L : List (Option Value)} {st : List Value} {n : Nat} {Q : xQ} {μ : xM} {x : Int32} (h : x_V S 111 281 (L.set 2 (some (.int x))) (st) μ n Q) : x_V S 111 280 L (.int x :: st) μ n Q := x_istore_n d111_280 (by decide) h
theorem s111_281 {S : Nat × (Nat → Int32)} {L : List (Option Value)} {st : List Value} {n : Nat} {Q : xQ} {μ : xM} {a : Nat} (hl : L[0]? = some (some (.ref a))) (h : x_V S 111 282 L (.ref a :: st) μ n Q) : x_V S 111 281 L (st) μ n Q := x_aload_n d111_281 hl h
theorem s111_281N {S : Nat × (Nat → Int32)} {L : List (Option Value)} {st : List Value} {n : Nat} {Q : xQ} {μ : xM} (hl : L[0]? = some (some .null)) (h : x_V S 111 282 L (.null :: st) μ n Q) : x_V S 111 281 L st μ n Q := x_aload_nN d111_281 hl h
theorem s111_282 {S : Nat × (Nat → Int32)} {L : List (Option Value)} {st : List Value} {n : Nat} {Q : xQ} {μ : xM} {x : Int32} (hl : L[3]? = some (some (.int x))) (h : x_V S 111 283 L (.int x :: st) μ n Q) : x_V S 111 282 L (st) μ n Q := x_iload_n d111_282 hl h
theorem s111_283 {S : Nat × (Nat → Int32)} {L : List (Option Value)} {st : List Value} {n : Nat} {Q : xQ} {μ : xM} {x : Int} (hx : ib x) (kt : x ≠ 0 → x_V S 111 291 L (st) μ n Q) (kf : x = 0 → x_V S 111 286 L (st) μ n Q) : x_V S 111 283 L (.int (I x) :: st) μ n Q := v_if_ne d111_283 (by decide) hx kt kf
theorem s111_286 {S : Nat × (Nat → Int32)} {L : List (Option Value)} {st : List Value} {n : Nat} {Q : xQ} {μ : xM} {x : Int32} (hl : L[5]? = some (some (.int x))) (h : x_V S 111 288 L (.int x :: st) μ n Q) : x_V S 111 286 L (st) μ n Q := x_iload d111_286 hl h
theorem s111_288 {S : Nat × (Nat → Int32)} {L : List (Option Value)} {st : List Value} {n : Nat} {Q : xQ} {μ : xM}  (h : x_V S 111 295 L (st) μ n Q) : x_V S 111 288 L (st) μ n Q := x_goto (tgt := 295) (by decide) d111_288 h
theorem s111_291 {S : Nat × (Nat → Int32)} {L : List (Option Value)} {st : List Value} {n : Nat} {Q : xQ} {μ : xM} {a : Nat} (hl : L[0]? = some (some (.ref a))) (h : x_V S 111 292 L (.ref a :: st) μ n Q) : x_V S 111 291 L (st) μ n Q := x_aload_n d111_291 hl h
theorem s111_291N {S : Nat × (Nat → Int32)} {L : List (Option Value)} {st : List Value} {n : Nat} {Q : xQ} {μ : xM} (hl : L[0]? = some (some .null)) (h : x_V S 111 292 L (.null :: st) μ n Q) : x_V S 111 291 L st μ n Q := x_aload_nN d111_291 hl h
theorem s111_292 {S : Nat × (Nat → Int32)} {L : List (Option Value)} {st : List Value} {n : Nat} {Q : xQ} {g : Nat → Nat → Int} {a : Nat} (hs : x_sh a = (9, 39)) (hp : x_pt a 10 = none) (ha : a ≠ x_out) (h : x_V S 111 295 L (.int (I (g a 10)) :: st) (x_vm g) n Q) : x_V S 111 292 L (.ref a :: st) (x_vm g) n Q := v_get (i := 10) cf9 d111_292 (by decide) w705 hs hp ha h
theorem s111_295 {S : Nat × (Nat → Int32)} {L : List (Option Value)} {st : List Value} {n : Nat} {Q : xQ} {g : Nat → Nat → Int} {a : Nat} {x : Int} (hs : x_sh a = (9, 39)) (hp : x_pt a 10 = none) (ha : a ≠ x_out) (h : x_V S 111 298 L (st) (x_vm (x_uf g a 10 x)) n Q) : x_V S 111 295 L (.int (I x) :: .ref a :: st) (x_vm g) n Q := v_put (i := 10) cf9 d111_295 (by decide) rfl w705 hs rfl hp ha h
theorem s111_298 {S : Nat × (Nat → Int32)} {L : List (Option Value)} {st : List Value} {n : Nat} {Q : xQ} {μ : xM} {a : Nat} (hl : L[0]? = some (some (.ref a))) (h : x_V S 111 299 L (.ref a :: st) μ n Q) : x_V S 111 298 L (st) μ n Q := x_aload_n d111_298 hl h
theorem s111_298N {S : Nat × (Nat → Int32)} {L : List (Option Value)} {st : List Value} {n : Nat} {Q : xQ} {μ : xM} (hl : L[0]? = some (some .null)) (h : x_V S 111 299 L (.null :: st) μ n Q) : x_V S 111 298 L st μ n Q := x_aload_nN d111_298 hl h
theorem s111_299 {S : Nat × (Nat → Int32)} {L : List (Option Value)} {st : List Value} {n : Nat} {Q : xQ} {μ : xM} {x : Int32} (hl : L[3]? = some (some (.int x))) (h : x_V S 111 300 L (.int x :: st) μ n Q) : x_V S 111 299 L (st) μ n Q := x_iload_n d111_299 hl h
theorem s111_300 {S : Nat × (Nat → Int32)} {L : List (Option Value)} {st : List Value} {n : Nat} {Q : xQ} {μ : xM}  (h : x_V S 111 301 L (.int (I 1) :: st) μ n Q) : x_V S 111 300 L (st) μ n Q := x_iconst (by decide +kernel) d111_300 h
theorem s111_301 {S : Nat × (Nat → Int32)} {L : List (Option Value)} {st : List Value} {n : Nat} {Q : xQ} {μ : xM} {x y : Int} (hx : ib x) (hy : ib y) (kt : x ≠ y → x_V S 111 309 L (st) μ n Q) (kf : x = y → x_V S 111 304 L (st) μ n Q) : x_V S 111 301 L (.int (I y) :: .int (I x) :: st) μ n Q := v_icmp_ne d111_301 (by decide) hx hy kt kf
theorem s111_304 {S : Nat × (Nat → Int32)} {L : List (Option Value)} {st : List Value} {n : Nat} {Q : xQ} {μ : xM} {x : Int32} (hl : L[5]? = some (some (.int x))) (h : x_V S 111 306 L (.int x :: st) μ n Q) : x_V S 111 304 L (st) μ n Q := x_iload d111_304 hl h
theorem s111_306 {S : Nat × (Nat → Int32)} {L : List (Option Value)} {st : List Value} {n : Nat} {Q : xQ} {μ : xM}  (h : x_V S 111 313 L (st) μ n Q) : x_V S 111 306 L (st) μ n Q := x_goto (tgt := 313) (by decide) d111_306 h
theorem s111_309 {S : Nat × (Nat → Int32)} {L : List (Option Value)} {st : List Value} {n : Nat} {Q : xQ} {μ : xM} {a : Nat} (hl : L[0]? = some (some (.ref a))) (h : x_V S 111 310 L (.ref a :: st) μ n Q) : x_V S 111 309 L (st) μ n Q := x_aload_n d111_309 hl h
theorem s111_309N {S : Nat × (Nat → Int32)} {L : List (Option Value)} {st : List Value} {n : Nat} {Q : xQ} {μ : xM} (hl : L[0]? = some (some .null)) (h : x_V S 111 310 L (.null :: st) μ n Q) : x_V S 111 309 L st μ n Q := x_aload_nN d111_309 hl h
theorem s111_310 {S : Nat × (Nat → Int32)} {L : List (Option Value)} {st : List Value} {n : Nat} {Q : xQ} {g : Nat → Nat → Int} {a : Nat} (hs : x_sh a = (9, 39)) (hp : x_pt a 11 = none) (ha : a ≠ x_out) (h : x_V S 111 313 L (.int (I (g a 11)) :: st) (x_vm g) n Q) : x_V S 111 310 L (.ref a :: st) (x_vm g) n Q := v_get (i := 11) cf9 d111_310 (by decide) w706 hs hp ha h
theorem s111_313 {S : Nat × (Nat → Int32)} {L : List (Option Value)} {st : List Value} {n : Nat} {Q : xQ} {g : Nat → Nat → Int} {a : Nat} {x : Int} (hs : x_sh a = (9, 39)) (hp : x_pt a 11 = none) (ha : a ≠ x_out) (h : x_V S 111 316 L (st) (x_vm (x_uf g a 11 x)) n Q) : x_V S 111 313 L (.int (I x) :: .ref a :: st) (x_vm g) n Q := v_put (i := 11) cf9 d111_313 (by decide) rfl w706 hs rfl hp ha h
theorem s111_316 {S : Nat × (Nat → Int32)} {L : List (Option Value)} {st : List Value} {n : Nat} {Q : xQ} {μ : xM} {a : Nat} (hl : L[0]? = some (some (.ref a))) (h : x_V S 111 317 L (.ref a :: st) μ n Q) : x_V S 111 316 L (st) μ n Q := x_aload_n d111_316 hl h
theorem s111_316N {S : Nat × (Nat → Int32)} {L : List (Option Value)} {st : List Value} {n : Nat} {Q : xQ} {μ : xM} (hl : L[0]? = some (some .null)) (h : x_V S 111 317 L (.null :: st) μ n Q) : x_V S 111 316 L st μ n Q := x_aload_nN d111_316 hl h
theorem s111_317 {S : Nat × (Nat → Int32)} {L : List (Option Value)} {st : List Value} {n : Nat} {Q : xQ} {μ : xM} {x : Int32} (hl : L[3]? = some (some (.int x))) (h : x_V S 111 318 L (.int x :: st) μ n Q) : x_V S 111 317 L (st) μ n Q := x_iload_n d111_317 hl h
theorem s111_318 {S : Nat × (Nat → Int32)} {L : List (Option Value)} {st : List Value} {n : Nat} {Q : xQ} {μ : xM}  (h : x_V S 111 319 L (.int (I 2) :: st) μ n Q) : x_V S 111 318 L (st) μ n Q := x_iconst (by decide +kernel) d111_318 h
theorem s111_319 {S : Nat × (Nat → Int32)} {L : List (Option Value)} {st : List Value} {n : Nat} {Q : xQ} {μ : xM} {x y : Int} (hx : ib x) (hy : ib y) (kt : x ≠ y → x_V S 111 327 L (st) μ n Q) (kf : x = y → x_V S 111 322 L (st) μ n Q) : x_V S 111 319 L (.int (I y) :: .int (I x) :: st) μ n Q := v_icmp_ne d111_319 (by decide) hx hy kt kf
theorem s111_322 {S : Nat × (Nat → Int32)} {L : List (Option Value)} {st : List Value} {n : Nat} {Q : xQ} {μ : xM} {x : Int32} (hl : L[5]? = some (some (.int x))) (h : x_V S 111 324 L (.int x :: st) μ n Q) : x_V S 111 322 L (st) μ n Q := x_iload d111_322 hl h
theorem s111_324 {S : Nat × (Nat → Int32)} {L : List (Option Value)} {st : List Value} {n : Nat} {Q : xQ} {μ : xM}  (h : x_V S 111 331 L (st) μ n Q) : x_V S 111 324 L (st) μ n Q := x_goto (tgt := 331) (by decide) d111_324 h
theorem s111_327 {S : Nat × (Nat → Int32)} {L : List (Option Value)} {st : List Value} {n : Nat} {Q : xQ} {μ : xM} {a : Nat} (hl : L[0]? = some (some (.ref a))) (h : x_V S 111 328 L (.ref a :: st) μ n Q) : x_V S 111 327 L (st) μ n Q := x_aload_n d111_327 hl h
theorem s111_327N {S : Nat × (Nat → Int32)} {L : List (Option Value)} {st : List Value} {n : Nat} {Q : xQ} {μ : xM} (hl : L[0]? = some (some .null)) (h : x_V S 111 328 L (.null :: st) μ n Q) : x_V S 111 327 L st μ n Q := x_aload_nN d111_327 hl h
theorem s111_328 {S : Nat × (Nat → Int32)} {L : List (Option Value)} {st : List Value} {n : Nat} {Q : xQ} {g : Nat → Nat → Int} {a : Nat} (hs : x_sh a = (9, 39)) (hp : x_pt a 12 = none) (ha : a ≠ x_out) (h : x_V S 111 331 L (.int (I (g a 12)) :: st) (x_vm g) n Q) : x_V S 111 328 L (.ref a :: st) (x_vm g) n Q := v_get (i := 12) cf9 d111_328 (by decide) w707 hs hp ha h
theorem s111_331 {S : Nat × (Nat → Int32)} {L : List (Option Value)} {st : List Value} {n : Nat} {Q : xQ} {g : Nat → Nat → Int} {a : Nat} {x : Int} (hs : x_sh a = (9, 39)) (hp : x_pt a 12 = none) (ha : a ≠ x_out) (h : x_V S 111 334 L (st) (x_vm (x_uf g a 12 x)) n Q) : x_V S 111 331 L (.int (I x) :: .ref a :: st) (x_vm g) n Q := v_put (i := 12) cf9 d111_331 (by decide) rfl w707 hs rfl hp ha h
theorem s111_334 {S : Nat × (Nat → Int32)} {L : List (Option Value)} {st : List Value} {n : Nat} {Q : xQ} {μ : xM} {x : Int} (hl : L[1]? = some (some (.int (I x)))) (h : x_V S 111 337 (L.set 1 (some (.int (I (x + 1))))) (st) μ n Q) : x_V S 111 334 L (st) μ n Q := v_iinc d111_334 hl (by decide) h
theorem s111_337 {S : Nat × (Nat → Int32)} {L : List (Option Value)} {st : List Value} {n : Nat} {Q : xQ} {μ : xM} {x : Int} (hl : L[3]? = some (some (.int (I x)))) (h : x_V S 111 340 (L.set 3 (some (.int (I (x + 1))))) (st) μ n Q) : x_V S 111 337 L (st) μ n Q := v_iinc d111_337 hl (by decide) h
theorem s111_340 {S : Nat × (Nat → Int32)} {L : List (Option Value)} {st : List Value} {n : Nat} {Q : xQ} {μ : xM}  (h : x_V S 111 186 L (st) μ n Q) : x_V S 111 340 L (st) μ n Q := x_goto (tgt := 186) (by decide) d111_340 h
theorem s111_343 {S : Nat × (Nat → Int32)} {L : List (Option Value)} {st : List Value} {n : Nat} {Q : xQ} {μ : xM} {x : Int32} (hl : L[2]? = some (some (.int x))) (h : x_V S 111 344 L (.int x :: st) μ n Q) : x_V S 111 343 L (st) μ n Q := x_iload_n d111_343 hl h
theorem s111_344 {S : Nat × (Nat → Int32)} {L : List (Option Value)} {st : List Value} {n : Nat} {Q : xQ} {μ : xM} {x : Int} (hx : ib x) (kt : x = 0 → x_V S 111 361 L (st) μ n Q) (kf : x ≠ 0 → x_V S 111 347 L (st) μ n Q) : x_V S 111 344 L (.int (I x) :: st) μ n Q := v_if_eq d111_344 (by decide) hx kt kf
theorem s111_347 {S : Nat × (Nat → Int32)} {L : List (Option Value)} {st : List Value} {n : Nat} {Q : xQ} {μ : xM} {x : Int32} (hl : L[1]? = some (some (.int x))) (h : x_V S 111 348 L (.int x :: st) μ n Q) : x_V S 111 347 L (st) μ n Q := x_iload_n d111_347 hl h
theorem s111_348 {S : Nat × (Nat → Int32)} {L : List (Option Value)} {st : List Value} {n : Nat} {Q : xQ} {μ : xM} {a : Nat} (hl : L[0]? = some (some (.ref a))) (h : x_V S 111 349 L (.ref a :: st) μ n Q) : x_V S 111 348 L (st) μ n Q := x_aload_n d111_348 hl h
theorem s111_348N {S : Nat × (Nat → Int32)} {L : List (Option Value)} {st : List Value} {n : Nat} {Q : xQ} {μ : xM} (hl : L[0]? = some (some .null)) (h : x_V S 111 349 L (.null :: st) μ n Q) : x_V S 111 348 L st μ n Q := x_aload_nN d111_348 hl h
theorem s111_349 {S : Nat × (Nat → Int32)} {L : List (Option Value)} {st : List Value} {n : Nat} {Q : xQ} {g : Nat → Nat → Int} {a : Nat} (hs : x_sh a = (9, 39)) (hp : x_pt a 4 = none) (ha : a ≠ x_out) (h : x_V S 111 352 L (.int (I (g a 4)) :: st) (x_vm g) n Q) : x_V S 111 349 L (.ref a :: st) (x_vm g) n Q := v_get (i := 4) cf9 d111_349 (by decide) w699 hs hp ha h
theorem s111_352 {S : Nat × (Nat → Int32)} {L : List (Option Value)} {st : List Value} {n : Nat} {Q : xQ} {μ : xM}  (h : x_V S 111 353 L (.int (I 1) :: st) μ n Q) : x_V S 111 352 L (st) μ n Q := x_iconst (by decide +kernel) d111_352 h
theorem s111_353 {S : Nat × (Nat → Int32)} {L : List (Option Value)} {st : List Value} {n : Nat} {Q : xQ} {μ : xM} {x y : Int} (h : x_V S 111 354 L (.int (I (x - y)) :: st) μ n Q) : x_V S 111 353 L (.int (I y) :: .int (I x) :: st) μ n Q := v_isub d111_353 h
theorem s111_354 {S : Nat × (Nat → Int32)} {L : List (Option Value)} {st : List Value} {n : Nat} {Q : xQ} {μ : xM} {x y : Int} (hx : ib x) (hy : ib y) (kt : x ≠ y → x_V S 111 361 L (st) μ n Q) (kf : x = y → x_V S 111 357 L (st) μ n Q) : x_V S 111 354 L (.int (I y) :: .int (I x) :: st) μ n Q := v_icmp_ne d111_354 (by decide) hx hy kt kf
theorem s111_357 {S : Nat × (Nat → Int32)} {L : List (Option Value)} {st : List Value} {n : Nat} {Q : xQ} {μ : xM}  (h : x_V S 111 358 L (.int (I 1) :: st) μ n Q) : x_V S 111 357 L (st) μ n Q := x_iconst (by decide +kernel) d111_357 h
theorem s111_358 {S : Nat × (Nat → Int32)} {L : List (Option Value)} {st : List Value} {n : Nat} {Q : xQ} {μ : xM}  (h : x_V S 111 362 L (st) μ n Q) : x_V S 111 358 L (st) μ n Q := x_goto (tgt := 362) (by decide) d111_358 h
theorem s111_361 {S : Nat × (Nat → Int32)} {L : List (Option Value)} {st : List Value} {n : Nat} {Q : xQ} {μ : xM}  (h : x_V S 111 362 L (.int (I 0) :: st) μ n Q) : x_V S 111 361 L (st) μ n Q := x_iconst (by decide +kernel) d111_361 h
theorem s111_362 {S : Nat × (Nat → Int32)} {L : List (Option Value)} {st : List Value} {n : Nat} {Q : xQ} {μ : xM} {v : Int} (hv : v = 0 ∨ v = 1) (h : Q (.inl (some (.int (I v)))) μ n) : x_V S 111 362 L (.int (I v) :: []) μ n Q := v_zreturn d111_362 rfl hv h
theorem mC_112 : mC 112 = prog_12_method_30_code := rfl
theorem d112_0 : decode (mC 112) 0 = .ok (.iconst 0, 1) := by rw [mC_112]; decide +kernel
theorem d112_1 : decode (mC 112) 1 = .ok (.istore_n 2, 1) := by rw [mC_112]; decide +kernel
theorem d112_2 : decode (mC 112) 2 = .ok (.iconst 0, 1) := by rw [mC_112]; decide +kernel
theorem d112_3 : decode (mC 112) 3 = .ok (.istore_n 3, 1) := by rw [mC_112]; decide +kernel
theorem d112_4 : decode (mC 112) 4 = .ok (.iload_n 3, 1) := by rw [mC_112]; decide +kernel
theorem d112_5 : decode (mC 112) 5 = .ok (.aload_n 0, 1) := by rw [mC_112]; decide +kernel
theorem d112_6 : decode (mC 112) 6 = .ok (.getfield 189, 3) := by rw [mC_112]; decide +kernel
theorem d112_9 : decode (mC 112) 9 = .ok (.if_icmp .ge 29, 3) := by rw [mC_112]; decide +kernel
theorem d112_12 : decode (mC 112) 12 = .ok (.iload_n 2, 1) := by rw [mC_112]; decide +kernel
theorem d112_13 : decode (mC 112) 13 = .ok (.ifCond .ne 13, 3) := by rw [mC_112]; decide +kernel
theorem d112_16 : decode (mC 112) 16 = .ok (.aload_n 0, 1) := by rw [mC_112]; decide +kernel
theorem d112_17 : decode (mC 112) 17 = .ok (.getfield 57, 3) := by rw [mC_112]; decide +kernel
theorem d112_20 : decode (mC 112) 20 = .ok (.iload_n 3, 1) := by rw [mC_112]; decide +kernel
theorem d112_21 : decode (mC 112) 21 = .ok (.iaload, 1) := by rw [mC_112]; decide +kernel
theorem d112_22 : decode (mC 112) 22 = .ok (.iload_n 1, 1) := by rw [mC_112]; decide +kernel
theorem d112_23 : decode (mC 112) 23 = .ok (.if_icmp .ne 7, 3) := by rw [mC_112]; decide +kernel
theorem d112_26 : decode (mC 112) 26 = .ok (.iconst 1, 1) := by rw [mC_112]; decide +kernel
theorem d112_27 : decode (mC 112) 27 = .ok (.goto 4, 3) := by rw [mC_112]; decide +kernel
theorem d112_30 : decode (mC 112) 30 = .ok (.iconst 0, 1) := by rw [mC_112]; decide +kernel
theorem d112_31 : decode (mC 112) 31 = .ok (.istore_n 2, 1) := by rw [mC_112]; decide +kernel
theorem d112_32 : decode (mC 112) 32 = .ok (.iinc 3 1, 3) := by rw [mC_112]; decide +kernel
theorem d112_35 : decode (mC 112) 35 = .ok (.goto (-31), 3) := by rw [mC_112]; decide +kernel
theorem d112_38 : decode (mC 112) 38 = .ok (.iload_n 2, 1) := by rw [mC_112]; decide +kernel
theorem d112_39 : decode (mC 112) 39 = .ok (.ireturn, 1) := by rw [mC_112]; decide +kernel
theorem s112_0 {S : Nat × (Nat → Int32)} {L : List (Option Value)} {st : List Value} {n : Nat} {Q : xQ} {μ : xM}  (h : x_V S 112 1 L (.int (I 0) :: st) μ n Q) : x_V S 112 0 L (st) μ n Q := x_iconst (by decide +kernel) d112_0 h
theorem s112_1 {S : Nat × (Nat → Int32)} {L : List (Option Value)} {st : List Value} {n : Nat} {Q : xQ} {μ : xM} {x : Int32} (h : x_V S 112 2 (L.set 2 (some (.int x))) (st) μ n Q) : x_V S 112 1 L (.int x :: st) μ n Q := x_istore_n d112_1 (by decide) h
theorem s112_2 {S : Nat × (Nat → Int32)} {L : List (Option Value)} {st : List Value} {n : Nat} {Q : xQ} {μ : xM}  (h : x_V S 112 3 L (.int (I 0) :: st) μ n Q) : x_V S 112 2 L (st) μ n Q := x_iconst (by decide +kernel) d112_2 h
theorem s112_3 {S : Nat × (Nat → Int32)} {L : List (Option Value)} {st : List Value} {n : Nat} {Q : xQ} {μ : xM} {x : Int32} (h : x_V S 112 4 (L.set 3 (some (.int x))) (st) μ n Q) : x_V S 112 3 L (.int x :: st) μ n Q := x_istore_n d112_3 (by decide) h
theorem s112_4 {S : Nat × (Nat → Int32)} {L : List (Option Value)} {st : List Value} {n : Nat} {Q : xQ} {μ : xM} {x : Int32} (hl : L[3]? = some (some (.int x))) (h : x_V S 112 5 L (.int x :: st) μ n Q) : x_V S 112 4 L (st) μ n Q := x_iload_n d112_4 hl h
theorem s112_5 {S : Nat × (Nat → Int32)} {L : List (Option Value)} {st : List Value} {n : Nat} {Q : xQ} {μ : xM} {a : Nat} (hl : L[0]? = some (some (.ref a))) (h : x_V S 112 6 L (.ref a :: st) μ n Q) : x_V S 112 5 L (st) μ n Q := x_aload_n d112_5 hl h
theorem s112_5N {S : Nat × (Nat → Int32)} {L : List (Option Value)} {st : List Value} {n : Nat} {Q : xQ} {μ : xM} (hl : L[0]? = some (some .null)) (h : x_V S 112 6 L (.null :: st) μ n Q) : x_V S 112 5 L st μ n Q := x_aload_nN d112_5 hl h
theorem s112_6 {S : Nat × (Nat → Int32)} {L : List (Option Value)} {st : List Value} {n : Nat} {Q : xQ} {g : Nat → Nat → Int} {a : Nat} (hs : x_sh a = (9, 39)) (hp : x_pt a 35 = none) (ha : a ≠ x_out) (h : x_V S 112 9 L (.int (I (g a 35)) :: st) (x_vm g) n Q) : x_V S 112 6 L (.ref a :: st) (x_vm g) n Q := v_get (i := 35) cf9 d112_6 (by decide) w730 hs hp ha h
theorem s112_9 {S : Nat × (Nat → Int32)} {L : List (Option Value)} {st : List Value} {n : Nat} {Q : xQ} {μ : xM} {x y : Int} (hx : ib x) (hy : ib y) (kt : y ≤ x → x_V S 112 38 L (st) μ n Q) (kf : x < y → x_V S 112 12 L (st) μ n Q) : x_V S 112 9 L (.int (I y) :: .int (I x) :: st) μ n Q := v_icmp_ge d112_9 (by decide) hx hy kt kf
theorem s112_12 {S : Nat × (Nat → Int32)} {L : List (Option Value)} {st : List Value} {n : Nat} {Q : xQ} {μ : xM} {x : Int32} (hl : L[2]? = some (some (.int x))) (h : x_V S 112 13 L (.int x :: st) μ n Q) : x_V S 112 12 L (st) μ n Q := x_iload_n d112_12 hl h
theorem s112_13 {S : Nat × (Nat → Int32)} {L : List (Option Value)} {st : List Value} {n : Nat} {Q : xQ} {μ : xM} {x : Int} (hx : ib x) (kt : x ≠ 0 → x_V S 112 26 L (st) μ n Q) (kf : x = 0 → x_V S 112 16 L (st) μ n Q) : x_V S 112 13 L (.int (I x) :: st) μ n Q := v_if_ne d112_13 (by decide) hx kt kf
theorem s112_16 {S : Nat × (Nat → Int32)} {L : List (Option Value)} {st : List Value} {n : Nat} {Q : xQ} {μ : xM} {a : Nat} (hl : L[0]? = some (some (.ref a))) (h : x_V S 112 17 L (.ref a :: st) μ n Q) : x_V S 112 16 L (st) μ n Q := x_aload_n d112_16 hl h
theorem s112_16N {S : Nat × (Nat → Int32)} {L : List (Option Value)} {st : List Value} {n : Nat} {Q : xQ} {μ : xM} (hl : L[0]? = some (some .null)) (h : x_V S 112 17 L (.null :: st) μ n Q) : x_V S 112 16 L st μ n Q := x_aload_nN d112_16 hl h
theorem s112_17 {S : Nat × (Nat → Int32)} {L : List (Option Value)} {st : List Value} {n : Nat} {Q : xQ} {g : Nat → Nat → Int} {a : Nat} {v : Value} (hs : x_sh a = (9, 39)) (hp : x_pt a 37 = some v) (h : x_V S 112 20 L (v :: st) (x_vm g) n Q) : x_V S 112 17 L (.ref a :: st) (x_vm g) n Q := v_getp (i := 37) cf9 d112_17 (by decide) w732 hs hp h
theorem s112_20 {S : Nat × (Nat → Int32)} {L : List (Option Value)} {st : List Value} {n : Nat} {Q : xQ} {μ : xM} {x : Int32} (hl : L[3]? = some (some (.int x))) (h : x_V S 112 21 L (.int x :: st) μ n Q) : x_V S 112 20 L (st) μ n Q := x_iload_n d112_20 hl h
theorem s112_22 {S : Nat × (Nat → Int32)} {L : List (Option Value)} {st : List Value} {n : Nat} {Q : xQ} {μ : xM} {x : Int32} (hl : L[1]? = some (some (.int x))) (h : x_V S 112 23 L (.int x :: st) μ n Q) : x_V S 112 22 L (st) μ n Q := x_iload_n d112_22 hl h
theorem s112_23 {S : Nat × (Nat → Int32)} {L : List (Option Value)} {st : List Value} {n : Nat} {Q : xQ} {μ : xM} {x y : Int} (hx : ib x) (hy : ib y) (kt : x ≠ y → x_V S 112 30 L (st) μ n Q) (kf : x = y → x_V S 112 26 L (st) μ n Q) : x_V S 112 23 L (.int (I y) :: .int (I x) :: st) μ n Q := v_icmp_ne d112_23 (by decide) hx hy kt kf
theorem s112_26 {S : Nat × (Nat → Int32)} {L : List (Option Value)} {st : List Value} {n : Nat} {Q : xQ} {μ : xM}  (h : x_V S 112 27 L (.int (I 1) :: st) μ n Q) : x_V S 112 26 L (st) μ n Q := x_iconst (by decide +kernel) d112_26 h
theorem s112_27 {S : Nat × (Nat → Int32)} {L : List (Option Value)} {st : List Value} {n : Nat} {Q : xQ} {μ : xM}  (h : x_V S 112 31 L (st) μ n Q) : x_V S 112 27 L (st) μ n Q := x_goto (tgt := 31) (by decide) d112_27 h
theorem s112_30 {S : Nat × (Nat → Int32)} {L : List (Option Value)} {st : List Value} {n : Nat} {Q : xQ} {μ : xM}  (h : x_V S 112 31 L (.int (I 0) :: st) μ n Q) : x_V S 112 30 L (st) μ n Q := x_iconst (by decide +kernel) d112_30 h
theorem s112_31 {S : Nat × (Nat → Int32)} {L : List (Option Value)} {st : List Value} {n : Nat} {Q : xQ} {μ : xM} {x : Int32} (h : x_V S 112 32 (L.set 2 (some (.int x))) (st) μ n Q) : x_V S 112 31 L (.int x :: st) μ n Q := x_istore_n d112_31 (by decide) h
theorem s112_32 {S : Nat × (Nat → Int32)} {L : List (Option Value)} {st : List Value} {n : Nat} {Q : xQ} {μ : xM} {x : Int} (hl : L[3]? = some (some (.int (I x)))) (h : x_V S 112 35 (L.set 3 (some (.int (I (x + 1))))) (st) μ n Q) : x_V S 112 32 L (st) μ n Q := v_iinc d112_32 hl (by decide) h
theorem s112_35 {S : Nat × (Nat → Int32)} {L : List (Option Value)} {st : List Value} {n : Nat} {Q : xQ} {μ : xM}  (h : x_V S 112 4 L (st) μ n Q) : x_V S 112 35 L (st) μ n Q := x_goto (tgt := 4) (by decide) d112_35 h
theorem s112_38 {S : Nat × (Nat → Int32)} {L : List (Option Value)} {st : List Value} {n : Nat} {Q : xQ} {μ : xM} {x : Int32} (hl : L[2]? = some (some (.int x))) (h : x_V S 112 39 L (.int x :: st) μ n Q) : x_V S 112 38 L (st) μ n Q := x_iload_n d112_38 hl h
theorem s112_39 {S : Nat × (Nat → Int32)} {L : List (Option Value)} {st : List Value} {n : Nat} {Q : xQ} {μ : xM} {v : Int} (hv : v = 0 ∨ v = 1) (h : Q (.inl (some (.int (I v)))) μ n) : x_V S 112 39 L (.int (I v) :: []) μ n Q := v_zreturn d112_39 rfl hv h
theorem mC_113 : mC 113 = prog_12_method_31_code := rfl
theorem d113_0 : decode (mC 113) 0 = .ok (.aload_n 0, 1) := by rw [mC_113]; decide +kernel
theorem d113_1 : decode (mC 113) 1 = .ok (.getfield 54, 3) := by rw [mC_113]; decide +kernel
theorem d113_4 : decode (mC 113) 4 = .ok (.iload_n 1, 1) := by rw [mC_113]; decide +kernel
theorem d113_5 : decode (mC 113) 5 = .ok (.baload, 1) := by rw [mC_113]; decide +kernel
theorem d113_6 : decode (mC 113) 6 = .ok (.ifCond .eq 7, 3) := by rw [mC_113]; decide +kernel
theorem d113_9 : decode (mC 113) 9 = .ok (.iconst 4, 1) := by rw [mC_113]; decide +kernel
theorem d113_10 : decode (mC 113) 10 = .ok (.goto 36, 3) := by rw [mC_113]; decide +kernel
theorem d113_13 : decode (mC 113) 13 = .ok (.aload_n 0, 1) := by rw [mC_113]; decide +kernel
theorem d113_14 : decode (mC 113) 14 = .ok (.getfield 51, 3) := by rw [mC_113]; decide +kernel
theorem d113_17 : decode (mC 113) 17 = .ok (.iload_n 1, 1) := by rw [mC_113]; decide +kernel
theorem d113_18 : decode (mC 113) 18 = .ok (.iaload, 1) := by rw [mC_113]; decide +kernel
theorem d113_19 : decode (mC 113) 19 = .ok (.aload_n 0, 1) := by rw [mC_113]; decide +kernel
theorem d113_20 : decode (mC 113) 20 = .ok (.getfield 48, 3) := by rw [mC_113]; decide +kernel
theorem d113_23 : decode (mC 113) 23 = .ok (.iload_n 1, 1) := by rw [mC_113]; decide +kernel
theorem d113_24 : decode (mC 113) 24 = .ok (.iaload, 1) := by rw [mC_113]; decide +kernel
theorem d113_25 : decode (mC 113) 25 = .ok (.if_icmp .ne 7, 3) := by rw [mC_113]; decide +kernel
theorem d113_28 : decode (mC 113) 28 = .ok (.iconst 2, 1) := by rw [mC_113]; decide +kernel
theorem d113_29 : decode (mC 113) 29 = .ok (.goto 17, 3) := by rw [mC_113]; decide +kernel
theorem d113_32 : decode (mC 113) 32 = .ok (.aload_n 0, 1) := by rw [mC_113]; decide +kernel
theorem d113_33 : decode (mC 113) 33 = .ok (.getfield 51, 3) := by rw [mC_113]; decide +kernel
theorem d113_36 : decode (mC 113) 36 = .ok (.iload_n 1, 1) := by rw [mC_113]; decide +kernel
theorem d113_37 : decode (mC 113) 37 = .ok (.iaload, 1) := by rw [mC_113]; decide +kernel
theorem d113_38 : decode (mC 113) 38 = .ok (.ifCond .le 7, 3) := by rw [mC_113]; decide +kernel
theorem d113_41 : decode (mC 113) 41 = .ok (.iconst 1, 1) := by rw [mC_113]; decide +kernel
theorem d113_42 : decode (mC 113) 42 = .ok (.goto 4, 3) := by rw [mC_113]; decide +kernel
theorem d113_45 : decode (mC 113) 45 = .ok (.iconst 0, 1) := by rw [mC_113]; decide +kernel
theorem d113_46 : decode (mC 113) 46 = .ok (.ireturn, 1) := by rw [mC_113]; decide +kernel
theorem s113_0 {S : Nat × (Nat → Int32)} {L : List (Option Value)} {st : List Value} {n : Nat} {Q : xQ} {μ : xM} {a : Nat} (hl : L[0]? = some (some (.ref a))) (h : x_V S 113 1 L (.ref a :: st) μ n Q) : x_V S 113 0 L (st) μ n Q := x_aload_n d113_0 hl h
theorem s113_0N {S : Nat × (Nat → Int32)} {L : List (Option Value)} {st : List Value} {n : Nat} {Q : xQ} {μ : xM} (hl : L[0]? = some (some .null)) (h : x_V S 113 1 L (.null :: st) μ n Q) : x_V S 113 0 L st μ n Q := x_aload_nN d113_0 hl h
theorem s113_1 {S : Nat × (Nat → Int32)} {L : List (Option Value)} {st : List Value} {n : Nat} {Q : xQ} {g : Nat → Nat → Int} {a : Nat} {v : Value} (hs : x_sh a = (9, 39)) (hp : x_pt a 34 = some v) (h : x_V S 113 4 L (v :: st) (x_vm g) n Q) : x_V S 113 1 L (.ref a :: st) (x_vm g) n Q := v_getp (i := 34) cf9 d113_1 (by decide) w729 hs hp h
theorem s113_4 {S : Nat × (Nat → Int32)} {L : List (Option Value)} {st : List Value} {n : Nat} {Q : xQ} {μ : xM} {x : Int32} (hl : L[1]? = some (some (.int x))) (h : x_V S 113 5 L (.int x :: st) μ n Q) : x_V S 113 4 L (st) μ n Q := x_iload_n d113_4 hl h
theorem s113_6 {S : Nat × (Nat → Int32)} {L : List (Option Value)} {st : List Value} {n : Nat} {Q : xQ} {μ : xM} {x : Int} (hx : ib x) (kt : x = 0 → x_V S 113 13 L (st) μ n Q) (kf : x ≠ 0 → x_V S 113 9 L (st) μ n Q) : x_V S 113 6 L (.int (I x) :: st) μ n Q := v_if_eq d113_6 (by decide) hx kt kf
theorem s113_9 {S : Nat × (Nat → Int32)} {L : List (Option Value)} {st : List Value} {n : Nat} {Q : xQ} {μ : xM}  (h : x_V S 113 10 L (.int (I 4) :: st) μ n Q) : x_V S 113 9 L (st) μ n Q := x_iconst (by decide +kernel) d113_9 h
theorem s113_10 {S : Nat × (Nat → Int32)} {L : List (Option Value)} {st : List Value} {n : Nat} {Q : xQ} {μ : xM}  (h : x_V S 113 46 L (st) μ n Q) : x_V S 113 10 L (st) μ n Q := x_goto (tgt := 46) (by decide) d113_10 h
theorem s113_13 {S : Nat × (Nat → Int32)} {L : List (Option Value)} {st : List Value} {n : Nat} {Q : xQ} {μ : xM} {a : Nat} (hl : L[0]? = some (some (.ref a))) (h : x_V S 113 14 L (.ref a :: st) μ n Q) : x_V S 113 13 L (st) μ n Q := x_aload_n d113_13 hl h
theorem s113_13N {S : Nat × (Nat → Int32)} {L : List (Option Value)} {st : List Value} {n : Nat} {Q : xQ} {μ : xM} (hl : L[0]? = some (some .null)) (h : x_V S 113 14 L (.null :: st) μ n Q) : x_V S 113 13 L st μ n Q := x_aload_nN d113_13 hl h
theorem s113_14 {S : Nat × (Nat → Int32)} {L : List (Option Value)} {st : List Value} {n : Nat} {Q : xQ} {g : Nat → Nat → Int} {a : Nat} {v : Value} (hs : x_sh a = (9, 39)) (hp : x_pt a 33 = some v) (h : x_V S 113 17 L (v :: st) (x_vm g) n Q) : x_V S 113 14 L (.ref a :: st) (x_vm g) n Q := v_getp (i := 33) cf9 d113_14 (by decide) w728 hs hp h
theorem s113_17 {S : Nat × (Nat → Int32)} {L : List (Option Value)} {st : List Value} {n : Nat} {Q : xQ} {μ : xM} {x : Int32} (hl : L[1]? = some (some (.int x))) (h : x_V S 113 18 L (.int x :: st) μ n Q) : x_V S 113 17 L (st) μ n Q := x_iload_n d113_17 hl h
theorem s113_19 {S : Nat × (Nat → Int32)} {L : List (Option Value)} {st : List Value} {n : Nat} {Q : xQ} {μ : xM} {a : Nat} (hl : L[0]? = some (some (.ref a))) (h : x_V S 113 20 L (.ref a :: st) μ n Q) : x_V S 113 19 L (st) μ n Q := x_aload_n d113_19 hl h
theorem s113_19N {S : Nat × (Nat → Int32)} {L : List (Option Value)} {st : List Value} {n : Nat} {Q : xQ} {μ : xM} (hl : L[0]? = some (some .null)) (h : x_V S 113 20 L (.null :: st) μ n Q) : x_V S 113 19 L st μ n Q := x_aload_nN d113_19 hl h
theorem s113_20 {S : Nat × (Nat → Int32)} {L : List (Option Value)} {st : List Value} {n : Nat} {Q : xQ} {g : Nat → Nat → Int} {a : Nat} {v : Value} (hs : x_sh a = (9, 39)) (hp : x_pt a 32 = some v) (h : x_V S 113 23 L (v :: st) (x_vm g) n Q) : x_V S 113 20 L (.ref a :: st) (x_vm g) n Q := v_getp (i := 32) cf9 d113_20 (by decide) w727 hs hp h
theorem s113_23 {S : Nat × (Nat → Int32)} {L : List (Option Value)} {st : List Value} {n : Nat} {Q : xQ} {μ : xM} {x : Int32} (hl : L[1]? = some (some (.int x))) (h : x_V S 113 24 L (.int x :: st) μ n Q) : x_V S 113 23 L (st) μ n Q := x_iload_n d113_23 hl h
theorem s113_25 {S : Nat × (Nat → Int32)} {L : List (Option Value)} {st : List Value} {n : Nat} {Q : xQ} {μ : xM} {x y : Int} (hx : ib x) (hy : ib y) (kt : x ≠ y → x_V S 113 32 L (st) μ n Q) (kf : x = y → x_V S 113 28 L (st) μ n Q) : x_V S 113 25 L (.int (I y) :: .int (I x) :: st) μ n Q := v_icmp_ne d113_25 (by decide) hx hy kt kf
theorem s113_28 {S : Nat × (Nat → Int32)} {L : List (Option Value)} {st : List Value} {n : Nat} {Q : xQ} {μ : xM}  (h : x_V S 113 29 L (.int (I 2) :: st) μ n Q) : x_V S 113 28 L (st) μ n Q := x_iconst (by decide +kernel) d113_28 h
theorem s113_29 {S : Nat × (Nat → Int32)} {L : List (Option Value)} {st : List Value} {n : Nat} {Q : xQ} {μ : xM}  (h : x_V S 113 46 L (st) μ n Q) : x_V S 113 29 L (st) μ n Q := x_goto (tgt := 46) (by decide) d113_29 h
theorem s113_32 {S : Nat × (Nat → Int32)} {L : List (Option Value)} {st : List Value} {n : Nat} {Q : xQ} {μ : xM} {a : Nat} (hl : L[0]? = some (some (.ref a))) (h : x_V S 113 33 L (.ref a :: st) μ n Q) : x_V S 113 32 L (st) μ n Q := x_aload_n d113_32 hl h
theorem s113_32N {S : Nat × (Nat → Int32)} {L : List (Option Value)} {st : List Value} {n : Nat} {Q : xQ} {μ : xM} (hl : L[0]? = some (some .null)) (h : x_V S 113 33 L (.null :: st) μ n Q) : x_V S 113 32 L st μ n Q := x_aload_nN d113_32 hl h
theorem s113_33 {S : Nat × (Nat → Int32)} {L : List (Option Value)} {st : List Value} {n : Nat} {Q : xQ} {g : Nat → Nat → Int} {a : Nat} {v : Value} (hs : x_sh a = (9, 39)) (hp : x_pt a 33 = some v) (h : x_V S 113 36 L (v :: st) (x_vm g) n Q) : x_V S 113 33 L (.ref a :: st) (x_vm g) n Q := v_getp (i := 33) cf9 d113_33 (by decide) w728 hs hp h
theorem s113_36 {S : Nat × (Nat → Int32)} {L : List (Option Value)} {st : List Value} {n : Nat} {Q : xQ} {μ : xM} {x : Int32} (hl : L[1]? = some (some (.int x))) (h : x_V S 113 37 L (.int x :: st) μ n Q) : x_V S 113 36 L (st) μ n Q := x_iload_n d113_36 hl h
theorem s113_38 {S : Nat × (Nat → Int32)} {L : List (Option Value)} {st : List Value} {n : Nat} {Q : xQ} {μ : xM} {x : Int} (hx : ib x) (kt : x ≤ 0 → x_V S 113 45 L (st) μ n Q) (kf : 0 < x → x_V S 113 41 L (st) μ n Q) : x_V S 113 38 L (.int (I x) :: st) μ n Q := v_if_le d113_38 (by decide) hx kt kf
theorem s113_41 {S : Nat × (Nat → Int32)} {L : List (Option Value)} {st : List Value} {n : Nat} {Q : xQ} {μ : xM}  (h : x_V S 113 42 L (.int (I 1) :: st) μ n Q) : x_V S 113 41 L (st) μ n Q := x_iconst (by decide +kernel) d113_41 h
theorem s113_42 {S : Nat × (Nat → Int32)} {L : List (Option Value)} {st : List Value} {n : Nat} {Q : xQ} {μ : xM}  (h : x_V S 113 46 L (st) μ n Q) : x_V S 113 42 L (st) μ n Q := x_goto (tgt := 46) (by decide) d113_42 h
theorem s113_45 {S : Nat × (Nat → Int32)} {L : List (Option Value)} {st : List Value} {n : Nat} {Q : xQ} {μ : xM}  (h : x_V S 113 46 L (.int (I 0) :: st) μ n Q) : x_V S 113 45 L (st) μ n Q := x_iconst (by decide +kernel) d113_45 h
theorem s113_46 {S : Nat × (Nat → Int32)} {L : List (Option Value)} {st : List Value} {n : Nat} {Q : xQ} {μ : xM} {x : Int32} (h : Q (.inl (some (.int x))) μ n) : x_V S 113 46 L (.int x :: []) μ n Q := x_ireturn d113_46 rfl rfl h
theorem mC_114 : mC 114 = prog_12_method_32_code := rfl
theorem d114_0 : decode (mC 114) 0 = .ok (.iconst (-1), 1) := by rw [mC_114]; decide +kernel
theorem d114_1 : decode (mC 114) 1 = .ok (.istore_n 2, 1) := by rw [mC_114]; decide +kernel
theorem d114_2 : decode (mC 114) 2 = .ok (.iconst 0, 1) := by rw [mC_114]; decide +kernel
theorem d114_3 : decode (mC 114) 3 = .ok (.istore_n 3, 1) := by rw [mC_114]; decide +kernel
theorem d114_4 : decode (mC 114) 4 = .ok (.iload_n 3, 1) := by rw [mC_114]; decide +kernel
theorem d114_5 : decode (mC 114) 5 = .ok (.aload_n 0, 1) := by rw [mC_114]; decide +kernel
theorem d114_6 : decode (mC 114) 6 = .ok (.getfield 192, 3) := by rw [mC_114]; decide +kernel
theorem d114_9 : decode (mC 114) 9 = .ok (.if_icmp .ge 34, 3) := by rw [mC_114]; decide +kernel
theorem d114_12 : decode (mC 114) 12 = .ok (.aload_n 0, 1) := by rw [mC_114]; decide +kernel
theorem d114_13 : decode (mC 114) 13 = .ok (.getfield 42, 3) := by rw [mC_114]; decide +kernel
theorem d114_16 : decode (mC 114) 16 = .ok (.iload_n 3, 1) := by rw [mC_114]; decide +kernel
theorem d114_17 : decode (mC 114) 17 = .ok (.iaload, 1) := by rw [mC_114]; decide +kernel
theorem d114_18 : decode (mC 114) 18 = .ok (.iload_n 1, 1) := by rw [mC_114]; decide +kernel
theorem d114_19 : decode (mC 114) 19 = .ok (.if_icmp .ne 16, 3) := by rw [mC_114]; decide +kernel
theorem d114_22 : decode (mC 114) 22 = .ok (.aload_n 0, 1) := by rw [mC_114]; decide +kernel
theorem d114_23 : decode (mC 114) 23 = .ok (.iload_n 3, 1) := by rw [mC_114]; decide +kernel
theorem d114_24 : decode (mC 114) 24 = .ok (.invokevirtual 195, 3) := by rw [mC_114]; decide +kernel
theorem d114_27 : decode (mC 114) 27 = .ok (.iconst 2, 1) := by rw [mC_114]; decide +kernel
theorem d114_28 : decode (mC 114) 28 = .ok (.if_icmp .ge 7, 3) := by rw [mC_114]; decide +kernel
theorem d114_31 : decode (mC 114) 31 = .ok (.iload_n 3, 1) := by rw [mC_114]; decide +kernel
theorem d114_32 : decode (mC 114) 32 = .ok (.goto 4, 3) := by rw [mC_114]; decide +kernel
theorem d114_35 : decode (mC 114) 35 = .ok (.iload_n 2, 1) := by rw [mC_114]; decide +kernel
theorem d114_36 : decode (mC 114) 36 = .ok (.istore_n 2, 1) := by rw [mC_114]; decide +kernel
theorem d114_37 : decode (mC 114) 37 = .ok (.iinc 3 1, 3) := by rw [mC_114]; decide +kernel
theorem d114_40 : decode (mC 114) 40 = .ok (.goto (-36), 3) := by rw [mC_114]; decide +kernel
theorem d114_43 : decode (mC 114) 43 = .ok (.iload_n 2, 1) := by rw [mC_114]; decide +kernel
theorem d114_44 : decode (mC 114) 44 = .ok (.ireturn, 1) := by rw [mC_114]; decide +kernel
theorem s114_0 {S : Nat × (Nat → Int32)} {L : List (Option Value)} {st : List Value} {n : Nat} {Q : xQ} {μ : xM}  (h : x_V S 114 1 L (.int (I (-1)) :: st) μ n Q) : x_V S 114 0 L (st) μ n Q := x_iconst (by decide +kernel) d114_0 h
theorem s114_1 {S : Nat × (Nat → Int32)} {L : List (Option Value)} {st : List Value} {n : Nat} {Q : xQ} {μ : xM} {x : Int32} (h : x_V S 114 2 (L.set 2 (some (.int x))) (st) μ n Q) : x_V S 114 1 L (.int x :: st) μ n Q := x_istore_n d114_1 (by decide) h
theorem s114_2 {S : Nat × (Nat → Int32)} {L : List (Option Value)} {st : List Value} {n : Nat} {Q : xQ} {μ : xM}  (h : x_V S 114 3 L (.int (I 0) :: st) μ n Q) : x_V S 114 2 L (st) μ n Q := x_iconst (by decide +kernel) d114_2 h
theorem s114_3 {S : Nat × (Nat → Int32)} {L : List (Option Value)} {st : List Value} {n : Nat} {Q : xQ} {μ : xM} {x : Int32} (h : x_V S 114 4 (L.set 3 (some (.int x))) (st) μ n Q) : x_V S 114 3 L (.int x :: st) μ n Q := x_istore_n d114_3 (by decide) h
theorem s114_4 {S : Nat × (Nat → Int32)} {L : List (Option Value)} {st : List Value} {n : Nat} {Q : xQ} {μ : xM} {x : Int32} (hl : L[3]? = some (some (.int x))) (h : x_V S 114 5 L (.int x :: st) μ n Q) : x_V S 114 4 L (st) μ n Q := x_iload_n d114_4 hl h
theorem s114_5 {S : Nat × (Nat → Int32)} {L : List (Option Value)} {st : List Value} {n : Nat} {Q : xQ} {μ : xM} {a : Nat} (hl : L[0]? = some (some (.ref a))) (h : x_V S 114 6 L (.ref a :: st) μ n Q) : x_V S 114 5 L (st) μ n Q := x_aload_n d114_5 hl h
theorem s114_5N {S : Nat × (Nat → Int32)} {L : List (Option Value)} {st : List Value} {n : Nat} {Q : xQ} {μ : xM} (hl : L[0]? = some (some .null)) (h : x_V S 114 6 L (.null :: st) μ n Q) : x_V S 114 5 L st μ n Q := x_aload_nN d114_5 hl h
theorem s114_6 {S : Nat × (Nat → Int32)} {L : List (Option Value)} {st : List Value} {n : Nat} {Q : xQ} {g : Nat → Nat → Int} {a : Nat} (hs : x_sh a = (9, 39)) (hp : x_pt a 29 = none) (ha : a ≠ x_out) (h : x_V S 114 9 L (.int (I (g a 29)) :: st) (x_vm g) n Q) : x_V S 114 6 L (.ref a :: st) (x_vm g) n Q := v_get (i := 29) cf9 d114_6 (by decide) w724 hs hp ha h
theorem s114_9 {S : Nat × (Nat → Int32)} {L : List (Option Value)} {st : List Value} {n : Nat} {Q : xQ} {μ : xM} {x y : Int} (hx : ib x) (hy : ib y) (kt : y ≤ x → x_V S 114 43 L (st) μ n Q) (kf : x < y → x_V S 114 12 L (st) μ n Q) : x_V S 114 9 L (.int (I y) :: .int (I x) :: st) μ n Q := v_icmp_ge d114_9 (by decide) hx hy kt kf
theorem s114_12 {S : Nat × (Nat → Int32)} {L : List (Option Value)} {st : List Value} {n : Nat} {Q : xQ} {μ : xM} {a : Nat} (hl : L[0]? = some (some (.ref a))) (h : x_V S 114 13 L (.ref a :: st) μ n Q) : x_V S 114 12 L (st) μ n Q := x_aload_n d114_12 hl h
theorem s114_12N {S : Nat × (Nat → Int32)} {L : List (Option Value)} {st : List Value} {n : Nat} {Q : xQ} {μ : xM} (hl : L[0]? = some (some .null)) (h : x_V S 114 13 L (.null :: st) μ n Q) : x_V S 114 12 L st μ n Q := x_aload_nN d114_12 hl h
theorem s114_13 {S : Nat × (Nat → Int32)} {L : List (Option Value)} {st : List Value} {n : Nat} {Q : xQ} {g : Nat → Nat → Int} {a : Nat} {v : Value} (hs : x_sh a = (9, 39)) (hp : x_pt a 30 = some v) (h : x_V S 114 16 L (v :: st) (x_vm g) n Q) : x_V S 114 13 L (.ref a :: st) (x_vm g) n Q := v_getp (i := 30) cf9 d114_13 (by decide) w725 hs hp h
theorem s114_16 {S : Nat × (Nat → Int32)} {L : List (Option Value)} {st : List Value} {n : Nat} {Q : xQ} {μ : xM} {x : Int32} (hl : L[3]? = some (some (.int x))) (h : x_V S 114 17 L (.int x :: st) μ n Q) : x_V S 114 16 L (st) μ n Q := x_iload_n d114_16 hl h
theorem s114_18 {S : Nat × (Nat → Int32)} {L : List (Option Value)} {st : List Value} {n : Nat} {Q : xQ} {μ : xM} {x : Int32} (hl : L[1]? = some (some (.int x))) (h : x_V S 114 19 L (.int x :: st) μ n Q) : x_V S 114 18 L (st) μ n Q := x_iload_n d114_18 hl h
theorem s114_19 {S : Nat × (Nat → Int32)} {L : List (Option Value)} {st : List Value} {n : Nat} {Q : xQ} {μ : xM} {x y : Int} (hx : ib x) (hy : ib y) (kt : x ≠ y → x_V S 114 35 L (st) μ n Q) (kf : x = y → x_V S 114 22 L (st) μ n Q) : x_V S 114 19 L (.int (I y) :: .int (I x) :: st) μ n Q := v_icmp_ne d114_19 (by decide) hx hy kt kf
theorem s114_22 {S : Nat × (Nat → Int32)} {L : List (Option Value)} {st : List Value} {n : Nat} {Q : xQ} {μ : xM} {a : Nat} (hl : L[0]? = some (some (.ref a))) (h : x_V S 114 23 L (.ref a :: st) μ n Q) : x_V S 114 22 L (st) μ n Q := x_aload_n d114_22 hl h
theorem s114_22N {S : Nat × (Nat → Int32)} {L : List (Option Value)} {st : List Value} {n : Nat} {Q : xQ} {μ : xM} (hl : L[0]? = some (some .null)) (h : x_V S 114 23 L (.null :: st) μ n Q) : x_V S 114 22 L st μ n Q := x_aload_nN d114_22 hl h
theorem s114_23 {S : Nat × (Nat → Int32)} {L : List (Option Value)} {st : List Value} {n : Nat} {Q : xQ} {μ : xM} {x : Int32} (hl : L[3]? = some (some (.int x))) (h : x_V S 114 24 L (.int x :: st) μ n Q) : x_V S 114 23 L (st) μ n Q := x_iload_n d114_23 hl h
theorem s114_24 {S : Nat × (Nat → Int32)} {L : List (Option Value)} {st : List Value} {n : Nat} {Q : xQ} {μ : xM} {x0 : Int32} {a : Nat} (hs : x_sh a = (9, 39)) (hst : st.length ≤ 4) (h : x_V S 113 0 [some (.ref a), some (.int x0)] [] μ n (x_bk S 114 24 L st Q)) : x_V S 114 24 L (.int x0 :: .ref a :: st) μ n Q := x_callV (k' := 113) (as := [.int x0]) (na := 1) d114_24 ⟨w948, by decide +kernel, by decide, by decide, by decide, by decide, by decide⟩ cf9 w945 w947 wp47 (by decide +kernel) rfl hs (fun v hv => by
    simp only [List.mem_cons, List.not_mem_nil, or_false] at hv
    rcases hv with rfl <;> first | rfl | assumption) hst h
theorem s114_27 {S : Nat × (Nat → Int32)} {L : List (Option Value)} {st : List Value} {n : Nat} {Q : xQ} {μ : xM}  (h : x_V S 114 28 L (.int (I 2) :: st) μ n Q) : x_V S 114 27 L (st) μ n Q := x_iconst (by decide +kernel) d114_27 h
theorem s114_28 {S : Nat × (Nat → Int32)} {L : List (Option Value)} {st : List Value} {n : Nat} {Q : xQ} {μ : xM} {x y : Int} (hx : ib x) (hy : ib y) (kt : y ≤ x → x_V S 114 35 L (st) μ n Q) (kf : x < y → x_V S 114 31 L (st) μ n Q) : x_V S 114 28 L (.int (I y) :: .int (I x) :: st) μ n Q := v_icmp_ge d114_28 (by decide) hx hy kt kf
theorem s114_31 {S : Nat × (Nat → Int32)} {L : List (Option Value)} {st : List Value} {n : Nat} {Q : xQ} {μ : xM} {x : Int32} (hl : L[3]? = some (some (.int x))) (h : x_V S 114 32 L (.int x :: st) μ n Q) : x_V S 114 31 L (st) μ n Q := x_iload_n d114_31 hl h
theorem s114_32 {S : Nat × (Nat → Int32)} {L : List (Option Value)} {st : List Value} {n : Nat} {Q : xQ} {μ : xM}  (h : x_V S 114 36 L (st) μ n Q) : x_V S 114 32 L (st) μ n Q := x_goto (tgt := 36) (by decide) d114_32 h
theorem s114_35 {S : Nat × (Nat → Int32)} {L : List (Option Value)} {st : List Value} {n : Nat} {Q : xQ} {μ : xM} {x : Int32} (hl : L[2]? = some (some (.int x))) (h : x_V S 114 36 L (.int x :: st) μ n Q) : x_V S 114 35 L (st) μ n Q := x_iload_n d114_35 hl h
theorem s114_36 {S : Nat × (Nat → Int32)} {L : List (Option Value)} {st : List Value} {n : Nat} {Q : xQ} {μ : xM} {x : Int32} (h : x_V S 114 37 (L.set 2 (some (.int x))) (st) μ n Q) : x_V S 114 36 L (.int x :: st) μ n Q := x_istore_n d114_36 (by decide) h
theorem s114_37 {S : Nat × (Nat → Int32)} {L : List (Option Value)} {st : List Value} {n : Nat} {Q : xQ} {μ : xM} {x : Int} (hl : L[3]? = some (some (.int (I x)))) (h : x_V S 114 40 (L.set 3 (some (.int (I (x + 1))))) (st) μ n Q) : x_V S 114 37 L (st) μ n Q := v_iinc d114_37 hl (by decide) h
theorem s114_40 {S : Nat × (Nat → Int32)} {L : List (Option Value)} {st : List Value} {n : Nat} {Q : xQ} {μ : xM}  (h : x_V S 114 4 L (st) μ n Q) : x_V S 114 40 L (st) μ n Q := x_goto (tgt := 4) (by decide) d114_40 h
theorem s114_43 {S : Nat × (Nat → Int32)} {L : List (Option Value)} {st : List Value} {n : Nat} {Q : xQ} {μ : xM} {x : Int32} (hl : L[2]? = some (some (.int x))) (h : x_V S 114 44 L (.int x :: st) μ n Q) : x_V S 114 43 L (st) μ n Q := x_iload_n d114_43 hl h
theorem s114_44 {S : Nat × (Nat → Int32)} {L : List (Option Value)} {st : List Value} {n : Nat} {Q : xQ} {μ : xM} {x : Int32} (h : Q (.inl (some (.int x))) μ n) : x_V S 114 44 L (.int x :: []) μ n Q := x_ireturn d114_44 rfl rfl h
theorem mC_115 : mC 115 = prog_12_method_33_code := rfl
theorem d115_0 : decode (mC 115) 0 = .ok (.aload_n 0, 1) := by rw [mC_115]; decide +kernel
theorem d115_1 : decode (mC 115) 1 = .ok (.bipush 56, 2) := by rw [mC_115]; decide +kernel
theorem d115_3 : decode (mC 115) 3 = .ok (.aload_n 0, 1) := by rw [mC_115]; decide +kernel
theorem d115_4 : decode (mC 115) 4 = .ok (.getfield 42, 3) := by rw [mC_115]; decide +kernel
theorem d115_7 : decode (mC 115) 7 = .ok (.iload_n 1, 1) := by rw [mC_115]; decide +kernel
theorem d115_8 : decode (mC 115) 8 = .ok (.iaload, 1) := by rw [mC_115]; decide +kernel
theorem d115_9 : decode (mC 115) 9 = .ok (.bipush 48, 2) := by rw [mC_115]; decide +kernel
theorem d115_11 : decode (mC 115) 11 = .ok (.aload_n 0, 1) := by rw [mC_115]; decide +kernel
theorem d115_12 : decode (mC 115) 12 = .ok (.iload_n 1, 1) := by rw [mC_115]; decide +kernel
theorem d115_13 : decode (mC 115) 13 = .ok (.invokevirtual 195, 3) := by rw [mC_115]; decide +kernel
theorem d115_16 : decode (mC 115) 16 = .ok (.iadd, 1) := by rw [mC_115]; decide +kernel
theorem d115_17 : decode (mC 115) 17 = .ok (.aload_n 0, 1) := by rw [mC_115]; decide +kernel
theorem d115_18 : decode (mC 115) 18 = .ok (.getfield 51, 3) := by rw [mC_115]; decide +kernel
theorem d115_21 : decode (mC 115) 21 = .ok (.iload_n 1, 1) := by rw [mC_115]; decide +kernel
theorem d115_22 : decode (mC 115) 22 = .ok (.iaload, 1) := by rw [mC_115]; decide +kernel
theorem d115_23 : decode (mC 115) 23 = .ok (.aload_n 0, 1) := by rw [mC_115]; decide +kernel
theorem d115_24 : decode (mC 115) 24 = .ok (.getfield 54, 3) := by rw [mC_115]; decide +kernel
theorem d115_27 : decode (mC 115) 27 = .ok (.iload_n 1, 1) := by rw [mC_115]; decide +kernel
theorem d115_28 : decode (mC 115) 28 = .ok (.baload, 1) := by rw [mC_115]; decide +kernel
theorem d115_29 : decode (mC 115) 29 = .ok (.ifCond .eq 7, 3) := by rw [mC_115]; decide +kernel
theorem d115_32 : decode (mC 115) 32 = .ok (.iconst 0, 1) := by rw [mC_115]; decide +kernel
theorem d115_33 : decode (mC 115) 33 = .ok (.goto 16, 3) := by rw [mC_115]; decide +kernel
theorem d115_36 : decode (mC 115) 36 = .ok (.aload_n 0, 1) := by rw [mC_115]; decide +kernel
theorem d115_37 : decode (mC 115) 37 = .ok (.getfield 48, 3) := by rw [mC_115]; decide +kernel
theorem d115_40 : decode (mC 115) 40 = .ok (.iload_n 1, 1) := by rw [mC_115]; decide +kernel
theorem d115_41 : decode (mC 115) 41 = .ok (.iaload, 1) := by rw [mC_115]; decide +kernel
theorem d115_42 : decode (mC 115) 42 = .ok (.aload_n 0, 1) := by rw [mC_115]; decide +kernel
theorem d115_43 : decode (mC 115) 43 = .ok (.getfield 51, 3) := by rw [mC_115]; decide +kernel
theorem d115_46 : decode (mC 115) 46 = .ok (.iload_n 1, 1) := by rw [mC_115]; decide +kernel
theorem d115_47 : decode (mC 115) 47 = .ok (.iaload, 1) := by rw [mC_115]; decide +kernel
theorem d115_48 : decode (mC 115) 48 = .ok (.isub, 1) := by rw [mC_115]; decide +kernel
theorem d115_49 : decode (mC 115) 49 = .ok (.invokevirtual 124, 3) := by rw [mC_115]; decide +kernel
theorem d115_52 : decode (mC 115) 52 = .ok (.return_, 1) := by rw [mC_115]; decide +kernel
theorem s115_0 {S : Nat × (Nat → Int32)} {L : List (Option Value)} {st : List Value} {n : Nat} {Q : xQ} {μ : xM} {a : Nat} (hl : L[0]? = some (some (.ref a))) (h : x_V S 115 1 L (.ref a :: st) μ n Q) : x_V S 115 0 L (st) μ n Q := x_aload_n d115_0 hl h
theorem s115_0N {S : Nat × (Nat → Int32)} {L : List (Option Value)} {st : List Value} {n : Nat} {Q : xQ} {μ : xM} (hl : L[0]? = some (some .null)) (h : x_V S 115 1 L (.null :: st) μ n Q) : x_V S 115 0 L st μ n Q := x_aload_nN d115_0 hl h
theorem s115_1 {S : Nat × (Nat → Int32)} {L : List (Option Value)} {st : List Value} {n : Nat} {Q : xQ} {μ : xM}  (h : x_V S 115 3 L (.int (I 56) :: st) μ n Q) : x_V S 115 1 L (st) μ n Q := x_bipush (by decide +kernel) d115_1 h
theorem s115_3 {S : Nat × (Nat → Int32)} {L : List (Option Value)} {st : List Value} {n : Nat} {Q : xQ} {μ : xM} {a : Nat} (hl : L[0]? = some (some (.ref a))) (h : x_V S 115 4 L (.ref a :: st) μ n Q) : x_V S 115 3 L (st) μ n Q := x_aload_n d115_3 hl h
theorem s115_3N {S : Nat × (Nat → Int32)} {L : List (Option Value)} {st : List Value} {n : Nat} {Q : xQ} {μ : xM} (hl : L[0]? = some (some .null)) (h : x_V S 115 4 L (.null :: st) μ n Q) : x_V S 115 3 L st μ n Q := x_aload_nN d115_3 hl h
theorem s115_4 {S : Nat × (Nat → Int32)} {L : List (Option Value)} {st : List Value} {n : Nat} {Q : xQ} {g : Nat → Nat → Int} {a : Nat} {v : Value} (hs : x_sh a = (9, 39)) (hp : x_pt a 30 = some v) (h : x_V S 115 7 L (v :: st) (x_vm g) n Q) : x_V S 115 4 L (.ref a :: st) (x_vm g) n Q := v_getp (i := 30) cf9 d115_4 (by decide) w725 hs hp h
theorem s115_7 {S : Nat × (Nat → Int32)} {L : List (Option Value)} {st : List Value} {n : Nat} {Q : xQ} {μ : xM} {x : Int32} (hl : L[1]? = some (some (.int x))) (h : x_V S 115 8 L (.int x :: st) μ n Q) : x_V S 115 7 L (st) μ n Q := x_iload_n d115_7 hl h
theorem s115_9 {S : Nat × (Nat → Int32)} {L : List (Option Value)} {st : List Value} {n : Nat} {Q : xQ} {μ : xM}  (h : x_V S 115 11 L (.int (I 48) :: st) μ n Q) : x_V S 115 9 L (st) μ n Q := x_bipush (by decide +kernel) d115_9 h
theorem s115_11 {S : Nat × (Nat → Int32)} {L : List (Option Value)} {st : List Value} {n : Nat} {Q : xQ} {μ : xM} {a : Nat} (hl : L[0]? = some (some (.ref a))) (h : x_V S 115 12 L (.ref a :: st) μ n Q) : x_V S 115 11 L (st) μ n Q := x_aload_n d115_11 hl h
theorem s115_11N {S : Nat × (Nat → Int32)} {L : List (Option Value)} {st : List Value} {n : Nat} {Q : xQ} {μ : xM} (hl : L[0]? = some (some .null)) (h : x_V S 115 12 L (.null :: st) μ n Q) : x_V S 115 11 L st μ n Q := x_aload_nN d115_11 hl h
theorem s115_12 {S : Nat × (Nat → Int32)} {L : List (Option Value)} {st : List Value} {n : Nat} {Q : xQ} {μ : xM} {x : Int32} (hl : L[1]? = some (some (.int x))) (h : x_V S 115 13 L (.int x :: st) μ n Q) : x_V S 115 12 L (st) μ n Q := x_iload_n d115_12 hl h
theorem s115_13 {S : Nat × (Nat → Int32)} {L : List (Option Value)} {st : List Value} {n : Nat} {Q : xQ} {μ : xM} {x0 : Int32} {a : Nat} (hs : x_sh a = (9, 39)) (hst : st.length ≤ 4) (h : x_V S 113 0 [some (.ref a), some (.int x0)] [] μ n (x_bk S 115 13 L st Q)) : x_V S 115 13 L (.int x0 :: .ref a :: st) μ n Q := x_callV (k' := 113) (as := [.int x0]) (na := 1) d115_13 ⟨w948, by decide +kernel, by decide, by decide, by decide, by decide, by decide⟩ cf9 w945 w947 wp47 (by decide +kernel) rfl hs (fun v hv => by
    simp only [List.mem_cons, List.not_mem_nil, or_false] at hv
    rcases hv with rfl <;> first | rfl | assumption) hst h
theorem s115_16 {S : Nat × (Nat → Int32)} {L : List (Option Value)} {st : List Value} {n : Nat} {Q : xQ} {μ : xM} {x y : Int} (h : x_V S 115 17 L (.int (I (x + y)) :: st) μ n Q) : x_V S 115 16 L (.int (I y) :: .int (I x) :: st) μ n Q := v_iadd d115_16 h
theorem s115_17 {S : Nat × (Nat → Int32)} {L : List (Option Value)} {st : List Value} {n : Nat} {Q : xQ} {μ : xM} {a : Nat} (hl : L[0]? = some (some (.ref a))) (h : x_V S 115 18 L (.ref a :: st) μ n Q) : x_V S 115 17 L (st) μ n Q := x_aload_n d115_17 hl h
theorem s115_17N {S : Nat × (Nat → Int32)} {L : List (Option Value)} {st : List Value} {n : Nat} {Q : xQ} {μ : xM} (hl : L[0]? = some (some .null)) (h : x_V S 115 18 L (.null :: st) μ n Q) : x_V S 115 17 L st μ n Q := x_aload_nN d115_17 hl h
theorem s115_18 {S : Nat × (Nat → Int32)} {L : List (Option Value)} {st : List Value} {n : Nat} {Q : xQ} {g : Nat → Nat → Int} {a : Nat} {v : Value} (hs : x_sh a = (9, 39)) (hp : x_pt a 33 = some v) (h : x_V S 115 21 L (v :: st) (x_vm g) n Q) : x_V S 115 18 L (.ref a :: st) (x_vm g) n Q := v_getp (i := 33) cf9 d115_18 (by decide) w728 hs hp h
theorem s115_21 {S : Nat × (Nat → Int32)} {L : List (Option Value)} {st : List Value} {n : Nat} {Q : xQ} {μ : xM} {x : Int32} (hl : L[1]? = some (some (.int x))) (h : x_V S 115 22 L (.int x :: st) μ n Q) : x_V S 115 21 L (st) μ n Q := x_iload_n d115_21 hl h
theorem s115_23 {S : Nat × (Nat → Int32)} {L : List (Option Value)} {st : List Value} {n : Nat} {Q : xQ} {μ : xM} {a : Nat} (hl : L[0]? = some (some (.ref a))) (h : x_V S 115 24 L (.ref a :: st) μ n Q) : x_V S 115 23 L (st) μ n Q := x_aload_n d115_23 hl h
theorem s115_23N {S : Nat × (Nat → Int32)} {L : List (Option Value)} {st : List Value} {n : Nat} {Q : xQ} {μ : xM} (hl : L[0]? = some (some .null)) (h : x_V S 115 24 L (.null :: st) μ n Q) : x_V S 115 23 L st μ n Q := x_aload_nN d115_23 hl h
theorem s115_24 {S : Nat × (Nat → Int32)} {L : List (Option Value)} {st : List Value} {n : Nat} {Q : xQ} {g : Nat → Nat → Int} {a : Nat} {v : Value} (hs : x_sh a = (9, 39)) (hp : x_pt a 34 = some v) (h : x_V S 115 27 L (v :: st) (x_vm g) n Q) : x_V S 115 24 L (.ref a :: st) (x_vm g) n Q := v_getp (i := 34) cf9 d115_24 (by decide) w729 hs hp h
theorem s115_27 {S : Nat × (Nat → Int32)} {L : List (Option Value)} {st : List Value} {n : Nat} {Q : xQ} {μ : xM} {x : Int32} (hl : L[1]? = some (some (.int x))) (h : x_V S 115 28 L (.int x :: st) μ n Q) : x_V S 115 27 L (st) μ n Q := x_iload_n d115_27 hl h
theorem s115_29 {S : Nat × (Nat → Int32)} {L : List (Option Value)} {st : List Value} {n : Nat} {Q : xQ} {μ : xM} {x : Int} (hx : ib x) (kt : x = 0 → x_V S 115 36 L (st) μ n Q) (kf : x ≠ 0 → x_V S 115 32 L (st) μ n Q) : x_V S 115 29 L (.int (I x) :: st) μ n Q := v_if_eq d115_29 (by decide) hx kt kf
theorem s115_32 {S : Nat × (Nat → Int32)} {L : List (Option Value)} {st : List Value} {n : Nat} {Q : xQ} {μ : xM}  (h : x_V S 115 33 L (.int (I 0) :: st) μ n Q) : x_V S 115 32 L (st) μ n Q := x_iconst (by decide +kernel) d115_32 h
theorem s115_33 {S : Nat × (Nat → Int32)} {L : List (Option Value)} {st : List Value} {n : Nat} {Q : xQ} {μ : xM}  (h : x_V S 115 49 L (st) μ n Q) : x_V S 115 33 L (st) μ n Q := x_goto (tgt := 49) (by decide) d115_33 h
theorem s115_36 {S : Nat × (Nat → Int32)} {L : List (Option Value)} {st : List Value} {n : Nat} {Q : xQ} {μ : xM} {a : Nat} (hl : L[0]? = some (some (.ref a))) (h : x_V S 115 37 L (.ref a :: st) μ n Q) : x_V S 115 36 L (st) μ n Q := x_aload_n d115_36 hl h
theorem s115_36N {S : Nat × (Nat → Int32)} {L : List (Option Value)} {st : List Value} {n : Nat} {Q : xQ} {μ : xM} (hl : L[0]? = some (some .null)) (h : x_V S 115 37 L (.null :: st) μ n Q) : x_V S 115 36 L st μ n Q := x_aload_nN d115_36 hl h
theorem s115_37 {S : Nat × (Nat → Int32)} {L : List (Option Value)} {st : List Value} {n : Nat} {Q : xQ} {g : Nat → Nat → Int} {a : Nat} {v : Value} (hs : x_sh a = (9, 39)) (hp : x_pt a 32 = some v) (h : x_V S 115 40 L (v :: st) (x_vm g) n Q) : x_V S 115 37 L (.ref a :: st) (x_vm g) n Q := v_getp (i := 32) cf9 d115_37 (by decide) w727 hs hp h
theorem s115_40 {S : Nat × (Nat → Int32)} {L : List (Option Value)} {st : List Value} {n : Nat} {Q : xQ} {μ : xM} {x : Int32} (hl : L[1]? = some (some (.int x))) (h : x_V S 115 41 L (.int x :: st) μ n Q) : x_V S 115 40 L (st) μ n Q := x_iload_n d115_40 hl h
theorem s115_42 {S : Nat × (Nat → Int32)} {L : List (Option Value)} {st : List Value} {n : Nat} {Q : xQ} {μ : xM} {a : Nat} (hl : L[0]? = some (some (.ref a))) (h : x_V S 115 43 L (.ref a :: st) μ n Q) : x_V S 115 42 L (st) μ n Q := x_aload_n d115_42 hl h
theorem s115_42N {S : Nat × (Nat → Int32)} {L : List (Option Value)} {st : List Value} {n : Nat} {Q : xQ} {μ : xM} (hl : L[0]? = some (some .null)) (h : x_V S 115 43 L (.null :: st) μ n Q) : x_V S 115 42 L st μ n Q := x_aload_nN d115_42 hl h
theorem s115_43 {S : Nat × (Nat → Int32)} {L : List (Option Value)} {st : List Value} {n : Nat} {Q : xQ} {g : Nat → Nat → Int} {a : Nat} {v : Value} (hs : x_sh a = (9, 39)) (hp : x_pt a 33 = some v) (h : x_V S 115 46 L (v :: st) (x_vm g) n Q) : x_V S 115 43 L (.ref a :: st) (x_vm g) n Q := v_getp (i := 33) cf9 d115_43 (by decide) w728 hs hp h
theorem s115_46 {S : Nat × (Nat → Int32)} {L : List (Option Value)} {st : List Value} {n : Nat} {Q : xQ} {μ : xM} {x : Int32} (hl : L[1]? = some (some (.int x))) (h : x_V S 115 47 L (.int x :: st) μ n Q) : x_V S 115 46 L (st) μ n Q := x_iload_n d115_46 hl h
theorem s115_48 {S : Nat × (Nat → Int32)} {L : List (Option Value)} {st : List Value} {n : Nat} {Q : xQ} {μ : xM} {x y : Int} (h : x_V S 115 49 L (.int (I (x - y)) :: st) μ n Q) : x_V S 115 48 L (.int (I y) :: .int (I x) :: st) μ n Q := v_isub d115_48 h
theorem s115_49 {S : Nat × (Nat → Int32)} {L : List (Option Value)} {st : List Value} {n : Nat} {Q : xQ} {μ : xM} {x0 : Int32} {x1 : Int32} {x2 : Int32} {x3 : Int32} {x4 : Int32} {a : Nat} (hs : x_sh a = (9, 39)) (hst : st.length ≤ 4) (h : x_V S 98 0 [some (.ref a), some (.int x0), some (.int x1), some (.int x2), some (.int x3), some (.int x4)] [] μ n (x_bk S 115 49 L st Q)) : x_V S 115 49 L (.int x4 :: .int x3 :: .int x2 :: .int x1 :: .int x0 :: .ref a :: st) μ n Q := x_callV (k' := 98) (as := [.int x0, .int x1, .int x2, .int x3, .int x4]) (na := 5) d115_49 ⟨w916, by decide +kernel, by decide, by decide, by decide, by decide, by decide⟩ cf9 w913 w915 wp39 (by decide +kernel) rfl hs (fun v hv => by
    simp only [List.mem_cons, List.not_mem_nil, or_false] at hv
    rcases hv with rfl | rfl | rfl | rfl | rfl <;> first | rfl | assumption) hst h
theorem s115_52 {S : Nat × (Nat → Int32)} {L : List (Option Value)} {st : List Value} {n : Nat} {Q : xQ} {μ : xM}  (h : Q (.inl none) μ n) : x_V S 115 52 L ([]) μ n Q := x_return d115_52 rfl h
theorem mC_116 : mC 116 = prog_12_method_34_code := rfl
theorem d116_0 : decode (mC 116) 0 = .ok (.aload_n 0, 1) := by rw [mC_116]; decide +kernel
theorem d116_1 : decode (mC 116) 1 = .ok (.getfield 177, 3) := by rw [mC_116]; decide +kernel
theorem d116_4 : decode (mC 116) 4 = .ok (.ifCond .eq 14, 3) := by rw [mC_116]; decide +kernel
theorem d116_7 : decode (mC 116) 7 = .ok (.aload_n 0, 1) := by rw [mC_116]; decide +kernel
theorem d116_8 : decode (mC 116) 8 = .ok (.aload_n 0, 1) := by rw [mC_116]; decide +kernel
theorem d116_9 : decode (mC 116) 9 = .ok (.getfield 177, 3) := by rw [mC_116]; decide +kernel
theorem d116_12 : decode (mC 116) 12 = .ok (.invokevirtual 198, 3) := by rw [mC_116]; decide +kernel
theorem d116_15 : decode (mC 116) 15 = .ok (.ifCond .eq 5, 3) := by rw [mC_116]; decide +kernel
theorem d116_18 : decode (mC 116) 18 = .ok (.iconst (-1), 1) := by rw [mC_116]; decide +kernel
theorem d116_19 : decode (mC 116) 19 = .ok (.ireturn, 1) := by rw [mC_116]; decide +kernel
theorem d116_20 : decode (mC 116) 20 = .ok (.aload_n 0, 1) := by rw [mC_116]; decide +kernel
theorem d116_21 : decode (mC 116) 21 = .ok (.getfield 168, 3) := by rw [mC_116]; decide +kernel
theorem d116_24 : decode (mC 116) 24 = .ok (.bipush 68, 2) := by rw [mC_116]; decide +kernel
theorem d116_26 : decode (mC 116) 26 = .ok (.if_icmp .ne 100, 3) := by rw [mC_116]; decide +kernel
theorem d116_29 : decode (mC 116) 29 = .ok (.aload_n 0, 1) := by rw [mC_116]; decide +kernel
theorem d116_30 : decode (mC 116) 30 = .ok (.getfield 180, 3) := by rw [mC_116]; decide +kernel
theorem d116_33 : decode (mC 116) 33 = .ok (.iconst 1, 1) := by rw [mC_116]; decide +kernel
theorem d116_34 : decode (mC 116) 34 = .ok (.if_icmp .lt 27, 3) := by rw [mC_116]; decide +kernel
theorem d116_37 : decode (mC 116) 37 = .ok (.aload_n 0, 1) := by rw [mC_116]; decide +kernel
theorem d116_38 : decode (mC 116) 38 = .ok (.getfield 180, 3) := by rw [mC_116]; decide +kernel
theorem d116_41 : decode (mC 116) 41 = .ok (.iconst 2, 1) := by rw [mC_116]; decide +kernel
theorem d116_42 : decode (mC 116) 42 = .ok (.if_icmp .gt 19, 3) := by rw [mC_116]; decide +kernel
theorem d116_45 : decode (mC 116) 45 = .ok (.aload_n 0, 1) := by rw [mC_116]; decide +kernel
theorem d116_46 : decode (mC 116) 46 = .ok (.getfield 183, 3) := by rw [mC_116]; decide +kernel
theorem d116_49 : decode (mC 116) 49 = .ok (.ifCond .eq 12, 3) := by rw [mC_116]; decide +kernel
theorem d116_52 : decode (mC 116) 52 = .ok (.aload_n 0, 1) := by rw [mC_116]; decide +kernel
theorem d116_53 : decode (mC 116) 53 = .ok (.getfield 192, 3) := by rw [mC_116]; decide +kernel
theorem d116_56 : decode (mC 116) 56 = .ok (.bipush 40, 2) := by rw [mC_116]; decide +kernel
theorem d116_58 : decode (mC 116) 58 = .ok (.if_icmp .ne 5, 3) := by rw [mC_116]; decide +kernel
theorem d116_61 : decode (mC 116) 61 = .ok (.iconst (-1), 1) := by rw [mC_116]; decide +kernel
theorem d116_62 : decode (mC 116) 62 = .ok (.ireturn, 1) := by rw [mC_116]; decide +kernel
theorem d116_63 : decode (mC 116) 63 = .ok (.aload_n 0, 1) := by rw [mC_116]; decide +kernel
theorem d116_64 : decode (mC 116) 64 = .ok (.getfield 45, 3) := by rw [mC_116]; decide +kernel
theorem d116_67 : decode (mC 116) 67 = .ok (.aload_n 0, 1) := by rw [mC_116]; decide +kernel
theorem d116_68 : decode (mC 116) 68 = .ok (.getfield 192, 3) := by rw [mC_116]; decide +kernel
theorem d116_71 : decode (mC 116) 71 = .ok (.aload_n 0, 1) := by rw [mC_116]; decide +kernel
theorem d116_72 : decode (mC 116) 72 = .ok (.getfield 180, 3) := by rw [mC_116]; decide +kernel
theorem d116_75 : decode (mC 116) 75 = .ok (.iastore, 1) := by rw [mC_116]; decide +kernel
theorem d116_76 : decode (mC 116) 76 = .ok (.aload_n 0, 1) := by rw [mC_116]; decide +kernel
theorem d116_77 : decode (mC 116) 77 = .ok (.getfield 48, 3) := by rw [mC_116]; decide +kernel
theorem d116_80 : decode (mC 116) 80 = .ok (.aload_n 0, 1) := by rw [mC_116]; decide +kernel
theorem d116_81 : decode (mC 116) 81 = .ok (.getfield 192, 3) := by rw [mC_116]; decide +kernel
theorem d116_84 : decode (mC 116) 84 = .ok (.aload_n 0, 1) := by rw [mC_116]; decide +kernel
theorem d116_85 : decode (mC 116) 85 = .ok (.getfield 183, 3) := by rw [mC_116]; decide +kernel
theorem d116_88 : decode (mC 116) 88 = .ok (.iastore, 1) := by rw [mC_116]; decide +kernel
theorem d116_89 : decode (mC 116) 89 = .ok (.aload_n 0, 1) := by rw [mC_116]; decide +kernel
theorem d116_90 : decode (mC 116) 90 = .ok (.getfield 51, 3) := by rw [mC_116]; decide +kernel
theorem d116_93 : decode (mC 116) 93 = .ok (.aload_n 0, 1) := by rw [mC_116]; decide +kernel
theorem d116_94 : decode (mC 116) 94 = .ok (.getfield 192, 3) := by rw [mC_116]; decide +kernel
theorem d116_97 : decode (mC 116) 97 = .ok (.iconst 0, 1) := by rw [mC_116]; decide +kernel
theorem d116_98 : decode (mC 116) 98 = .ok (.iastore, 1) := by rw [mC_116]; decide +kernel
theorem d116_99 : decode (mC 116) 99 = .ok (.aload_n 0, 1) := by rw [mC_116]; decide +kernel
theorem d116_100 : decode (mC 116) 100 = .ok (.getfield 54, 3) := by rw [mC_116]; decide +kernel
theorem d116_103 : decode (mC 116) 103 = .ok (.aload_n 0, 1) := by rw [mC_116]; decide +kernel
theorem d116_104 : decode (mC 116) 104 = .ok (.getfield 192, 3) := by rw [mC_116]; decide +kernel
theorem d116_107 : decode (mC 116) 107 = .ok (.iconst 0, 1) := by rw [mC_116]; decide +kernel
theorem d116_108 : decode (mC 116) 108 = .ok (.bastore, 1) := by rw [mC_116]; decide +kernel
theorem d116_109 : decode (mC 116) 109 = .ok (.aload_n 0, 1) := by rw [mC_116]; decide +kernel
theorem d116_110 : decode (mC 116) 110 = .ok (.dup, 1) := by rw [mC_116]; decide +kernel
theorem d116_111 : decode (mC 116) 111 = .ok (.getfield 192, 3) := by rw [mC_116]; decide +kernel
theorem d116_114 : decode (mC 116) 114 = .ok (.iconst 1, 1) := by rw [mC_116]; decide +kernel
theorem d116_115 : decode (mC 116) 115 = .ok (.iadd, 1) := by rw [mC_116]; decide +kernel
theorem d116_116 : decode (mC 116) 116 = .ok (.putfield 192, 3) := by rw [mC_116]; decide +kernel
theorem d116_119 : decode (mC 116) 119 = .ok (.aload_n 0, 1) := by rw [mC_116]; decide +kernel
theorem d116_120 : decode (mC 116) 120 = .ok (.getfield 192, 3) := by rw [mC_116]; decide +kernel
theorem d116_123 : decode (mC 116) 123 = .ok (.iconst 1, 1) := by rw [mC_116]; decide +kernel
theorem d116_124 : decode (mC 116) 124 = .ok (.isub, 1) := by rw [mC_116]; decide +kernel
theorem d116_125 : decode (mC 116) 125 = .ok (.ireturn, 1) := by rw [mC_116]; decide +kernel
theorem d116_126 : decode (mC 116) 126 = .ok (.aload_n 0, 1) := by rw [mC_116]; decide +kernel
theorem d116_127 : decode (mC 116) 127 = .ok (.aload_n 0, 1) := by rw [mC_116]; decide +kernel
theorem d116_128 : decode (mC 116) 128 = .ok (.getfield 180, 3) := by rw [mC_116]; decide +kernel
theorem d116_131 : decode (mC 116) 131 = .ok (.invokevirtual 201, 3) := by rw [mC_116]; decide +kernel
theorem d116_134 : decode (mC 116) 134 = .ok (.istore_n 1, 1) := by rw [mC_116]; decide +kernel
theorem d116_135 : decode (mC 116) 135 = .ok (.iload_n 1, 1) := by rw [mC_116]; decide +kernel
theorem d116_136 : decode (mC 116) 136 = .ok (.ifCond .lt 25, 3) := by rw [mC_116]; decide +kernel
theorem d116_139 : decode (mC 116) 139 = .ok (.aload_n 0, 1) := by rw [mC_116]; decide +kernel
theorem d116_140 : decode (mC 116) 140 = .ok (.getfield 168, 3) := by rw [mC_116]; decide +kernel
theorem d116_143 : decode (mC 116) 143 = .ok (.bipush 71, 2) := by rw [mC_116]; decide +kernel
theorem d116_145 : decode (mC 116) 145 = .ok (.if_icmp .ne 18, 3) := by rw [mC_116]; decide +kernel
theorem d116_148 : decode (mC 116) 148 = .ok (.aload_n 0, 1) := by rw [mC_116]; decide +kernel
theorem d116_149 : decode (mC 116) 149 = .ok (.getfield 183, 3) := by rw [mC_116]; decide +kernel
theorem d116_152 : decode (mC 116) 152 = .ok (.aload_n 0, 1) := by rw [mC_116]; decide +kernel
theorem d116_153 : decode (mC 116) 153 = .ok (.getfield 51, 3) := by rw [mC_116]; decide +kernel
theorem d116_156 : decode (mC 116) 156 = .ok (.iload_n 1, 1) := by rw [mC_116]; decide +kernel
theorem d116_157 : decode (mC 116) 157 = .ok (.iaload, 1) := by rw [mC_116]; decide +kernel
theorem d116_158 : decode (mC 116) 158 = .ok (.if_icmp .gt 5, 3) := by rw [mC_116]; decide +kernel
theorem d116_161 : decode (mC 116) 161 = .ok (.iconst (-1), 1) := by rw [mC_116]; decide +kernel
theorem d116_162 : decode (mC 116) 162 = .ok (.ireturn, 1) := by rw [mC_116]; decide +kernel
theorem d116_163 : decode (mC 116) 163 = .ok (.aload_n 0, 1) := by rw [mC_116]; decide +kernel
theorem d116_164 : decode (mC 116) 164 = .ok (.getfield 168, 3) := by rw [mC_116]; decide +kernel
theorem d116_167 : decode (mC 116) 167 = .ok (.bipush 70, 2) := by rw [mC_116]; decide +kernel
theorem d116_169 : decode (mC 116) 169 = .ok (.if_icmp .ne 13, 3) := by rw [mC_116]; decide +kernel
theorem d116_172 : decode (mC 116) 172 = .ok (.aload_n 0, 1) := by rw [mC_116]; decide +kernel
theorem d116_173 : decode (mC 116) 173 = .ok (.getfield 54, 3) := by rw [mC_116]; decide +kernel
theorem d116_176 : decode (mC 116) 176 = .ok (.iload_n 1, 1) := by rw [mC_116]; decide +kernel
theorem d116_177 : decode (mC 116) 177 = .ok (.iconst 1, 1) := by rw [mC_116]; decide +kernel
theorem d116_178 : decode (mC 116) 178 = .ok (.bastore, 1) := by rw [mC_116]; decide +kernel
theorem d116_179 : decode (mC 116) 179 = .ok (.goto 13, 3) := by rw [mC_116]; decide +kernel
theorem d116_182 : decode (mC 116) 182 = .ok (.aload_n 0, 1) := by rw [mC_116]; decide +kernel
theorem d116_183 : decode (mC 116) 183 = .ok (.getfield 48, 3) := by rw [mC_116]; decide +kernel
theorem d116_186 : decode (mC 116) 186 = .ok (.iload_n 1, 1) := by rw [mC_116]; decide +kernel
theorem d116_187 : decode (mC 116) 187 = .ok (.aload_n 0, 1) := by rw [mC_116]; decide +kernel
theorem d116_188 : decode (mC 116) 188 = .ok (.getfield 183, 3) := by rw [mC_116]; decide +kernel
theorem d116_191 : decode (mC 116) 191 = .ok (.iastore, 1) := by rw [mC_116]; decide +kernel
theorem d116_192 : decode (mC 116) 192 = .ok (.iload_n 1, 1) := by rw [mC_116]; decide +kernel
theorem d116_193 : decode (mC 116) 193 = .ok (.ireturn, 1) := by rw [mC_116]; decide +kernel
theorem s116_0 {S : Nat × (Nat → Int32)} {L : List (Option Value)} {st : List Value} {n : Nat} {Q : xQ} {μ : xM} {a : Nat} (hl : L[0]? = some (some (.ref a))) (h : x_V S 116 1 L (.ref a :: st) μ n Q) : x_V S 116 0 L (st) μ n Q := x_aload_n d116_0 hl h
theorem s116_0N {S : Nat × (Nat → Int32)} {L : List (Option Value)} {st : List Value} {n : Nat} {Q : xQ} {μ : xM} (hl : L[0]? = some (some .null)) (h : x_V S 116 1 L (.null :: st) μ n Q) : x_V S 116 0 L st μ n Q := x_aload_nN d116_0 hl h
theorem s116_1 {S : Nat × (Nat → Int32)} {L : List (Option Value)} {st : List Value} {n : Nat} {Q : xQ} {g : Nat → Nat → Int} {a : Nat} (hs : x_sh a = (9, 39)) (hp : x_pt a 10 = none) (ha : a ≠ x_out) (h : x_V S 116 4 L (.int (I (g a 10)) :: st) (x_vm g) n Q) : x_V S 116 1 L (.ref a :: st) (x_vm g) n Q := v_get (i := 10) cf9 d116_1 (by decide) w705 hs hp ha h
theorem s116_4 {S : Nat × (Nat → Int32)} {L : List (Option Value)} {st : List Value} {n : Nat} {Q : xQ} {μ : xM} {x : Int} (hx : ib x) (kt : x = 0 → x_V S 116 18 L (st) μ n Q) (kf : x ≠ 0 → x_V S 116 7 L (st) μ n Q) : x_V S 116 4 L (.int (I x) :: st) μ n Q := v_if_eq d116_4 (by decide) hx kt kf
theorem s116_7 {S : Nat × (Nat → Int32)} {L : List (Option Value)} {st : List Value} {n : Nat} {Q : xQ} {μ : xM} {a : Nat} (hl : L[0]? = some (some (.ref a))) (h : x_V S 116 8 L (.ref a :: st) μ n Q) : x_V S 116 7 L (st) μ n Q := x_aload_n d116_7 hl h
theorem s116_7N {S : Nat × (Nat → Int32)} {L : List (Option Value)} {st : List Value} {n : Nat} {Q : xQ} {μ : xM} (hl : L[0]? = some (some .null)) (h : x_V S 116 8 L (.null :: st) μ n Q) : x_V S 116 7 L st μ n Q := x_aload_nN d116_7 hl h
theorem s116_8 {S : Nat × (Nat → Int32)} {L : List (Option Value)} {st : List Value} {n : Nat} {Q : xQ} {μ : xM} {a : Nat} (hl : L[0]? = some (some (.ref a))) (h : x_V S 116 9 L (.ref a :: st) μ n Q) : x_V S 116 8 L (st) μ n Q := x_aload_n d116_8 hl h
theorem s116_8N {S : Nat × (Nat → Int32)} {L : List (Option Value)} {st : List Value} {n : Nat} {Q : xQ} {μ : xM} (hl : L[0]? = some (some .null)) (h : x_V S 116 9 L (.null :: st) μ n Q) : x_V S 116 8 L st μ n Q := x_aload_nN d116_8 hl h
theorem s116_9 {S : Nat × (Nat → Int32)} {L : List (Option Value)} {st : List Value} {n : Nat} {Q : xQ} {g : Nat → Nat → Int} {a : Nat} (hs : x_sh a = (9, 39)) (hp : x_pt a 10 = none) (ha : a ≠ x_out) (h : x_V S 116 12 L (.int (I (g a 10)) :: st) (x_vm g) n Q) : x_V S 116 9 L (.ref a :: st) (x_vm g) n Q := v_get (i := 10) cf9 d116_9 (by decide) w705 hs hp ha h
theorem s116_12 {S : Nat × (Nat → Int32)} {L : List (Option Value)} {st : List Value} {n : Nat} {Q : xQ} {μ : xM} {x0 : Int32} {a : Nat} (hs : x_sh a = (9, 39)) (hst : st.length ≤ 4) (h : x_V S 112 0 [some (.ref a), some (.int x0), none, none] [] μ n (x_bk S 116 12 L st Q)) : x_V S 116 12 L (.int x0 :: .ref a :: st) μ n Q := x_callV (k' := 112) (as := [.int x0]) (na := 1) d116_12 ⟨w940, by decide +kernel, by decide, by decide, by decide, by decide, by decide⟩ cf9 w937 w939 wp45 (by decide +kernel) rfl hs (fun v hv => by
    simp only [List.mem_cons, List.not_mem_nil, or_false] at hv
    rcases hv with rfl <;> first | rfl | assumption) hst h
theorem s116_15 {S : Nat × (Nat → Int32)} {L : List (Option Value)} {st : List Value} {n : Nat} {Q : xQ} {μ : xM} {x : Int} (hx : ib x) (kt : x = 0 → x_V S 116 20 L (st) μ n Q) (kf : x ≠ 0 → x_V S 116 18 L (st) μ n Q) : x_V S 116 15 L (.int (I x) :: st) μ n Q := v_if_eq d116_15 (by decide) hx kt kf
theorem s116_18 {S : Nat × (Nat → Int32)} {L : List (Option Value)} {st : List Value} {n : Nat} {Q : xQ} {μ : xM}  (h : x_V S 116 19 L (.int (I (-1)) :: st) μ n Q) : x_V S 116 18 L (st) μ n Q := x_iconst (by decide +kernel) d116_18 h
theorem s116_19 {S : Nat × (Nat → Int32)} {L : List (Option Value)} {st : List Value} {n : Nat} {Q : xQ} {μ : xM} {x : Int32} (h : Q (.inl (some (.int x))) μ n) : x_V S 116 19 L (.int x :: []) μ n Q := x_ireturn d116_19 rfl rfl h
theorem s116_20 {S : Nat × (Nat → Int32)} {L : List (Option Value)} {st : List Value} {n : Nat} {Q : xQ} {μ : xM} {a : Nat} (hl : L[0]? = some (some (.ref a))) (h : x_V S 116 21 L (.ref a :: st) μ n Q) : x_V S 116 20 L (st) μ n Q := x_aload_n d116_20 hl h
theorem s116_20N {S : Nat × (Nat → Int32)} {L : List (Option Value)} {st : List Value} {n : Nat} {Q : xQ} {μ : xM} (hl : L[0]? = some (some .null)) (h : x_V S 116 21 L (.null :: st) μ n Q) : x_V S 116 20 L st μ n Q := x_aload_nN d116_20 hl h
theorem s116_21 {S : Nat × (Nat → Int32)} {L : List (Option Value)} {st : List Value} {n : Nat} {Q : xQ} {g : Nat → Nat → Int} {a : Nat} (hs : x_sh a = (9, 39)) (hp : x_pt a 8 = none) (ha : a ≠ x_out) (h : x_V S 116 24 L (.int (I (g a 8)) :: st) (x_vm g) n Q) : x_V S 116 21 L (.ref a :: st) (x_vm g) n Q := v_get (i := 8) cf9 d116_21 (by decide) w703 hs hp ha h
theorem s116_24 {S : Nat × (Nat → Int32)} {L : List (Option Value)} {st : List Value} {n : Nat} {Q : xQ} {μ : xM}  (h : x_V S 116 26 L (.int (I 68) :: st) μ n Q) : x_V S 116 24 L (st) μ n Q := x_bipush (by decide +kernel) d116_24 h
theorem s116_26 {S : Nat × (Nat → Int32)} {L : List (Option Value)} {st : List Value} {n : Nat} {Q : xQ} {μ : xM} {x y : Int} (hx : ib x) (hy : ib y) (kt : x ≠ y → x_V S 116 126 L (st) μ n Q) (kf : x = y → x_V S 116 29 L (st) μ n Q) : x_V S 116 26 L (.int (I y) :: .int (I x) :: st) μ n Q := v_icmp_ne d116_26 (by decide) hx hy kt kf
theorem s116_29 {S : Nat × (Nat → Int32)} {L : List (Option Value)} {st : List Value} {n : Nat} {Q : xQ} {μ : xM} {a : Nat} (hl : L[0]? = some (some (.ref a))) (h : x_V S 116 30 L (.ref a :: st) μ n Q) : x_V S 116 29 L (st) μ n Q := x_aload_n d116_29 hl h
theorem s116_29N {S : Nat × (Nat → Int32)} {L : List (Option Value)} {st : List Value} {n : Nat} {Q : xQ} {μ : xM} (hl : L[0]? = some (some .null)) (h : x_V S 116 30 L (.null :: st) μ n Q) : x_V S 116 29 L st μ n Q := x_aload_nN d116_29 hl h
theorem s116_30 {S : Nat × (Nat → Int32)} {L : List (Option Value)} {st : List Value} {n : Nat} {Q : xQ} {g : Nat → Nat → Int} {a : Nat} (hs : x_sh a = (9, 39)) (hp : x_pt a 11 = none) (ha : a ≠ x_out) (h : x_V S 116 33 L (.int (I (g a 11)) :: st) (x_vm g) n Q) : x_V S 116 30 L (.ref a :: st) (x_vm g) n Q := v_get (i := 11) cf9 d116_30 (by decide) w706 hs hp ha h
theorem s116_33 {S : Nat × (Nat → Int32)} {L : List (Option Value)} {st : List Value} {n : Nat} {Q : xQ} {μ : xM}  (h : x_V S 116 34 L (.int (I 1) :: st) μ n Q) : x_V S 116 33 L (st) μ n Q := x_iconst (by decide +kernel) d116_33 h
theorem s116_34 {S : Nat × (Nat → Int32)} {L : List (Option Value)} {st : List Value} {n : Nat} {Q : xQ} {μ : xM} {x y : Int} (hx : ib x) (hy : ib y) (kt : x < y → x_V S 116 61 L (st) μ n Q) (kf : y ≤ x → x_V S 116 37 L (st) μ n Q) : x_V S 116 34 L (.int (I y) :: .int (I x) :: st) μ n Q := v_icmp_lt d116_34 (by decide) hx hy kt kf
theorem s116_37 {S : Nat × (Nat → Int32)} {L : List (Option Value)} {st : List Value} {n : Nat} {Q : xQ} {μ : xM} {a : Nat} (hl : L[0]? = some (some (.ref a))) (h : x_V S 116 38 L (.ref a :: st) μ n Q) : x_V S 116 37 L (st) μ n Q := x_aload_n d116_37 hl h
theorem s116_37N {S : Nat × (Nat → Int32)} {L : List (Option Value)} {st : List Value} {n : Nat} {Q : xQ} {μ : xM} (hl : L[0]? = some (some .null)) (h : x_V S 116 38 L (.null :: st) μ n Q) : x_V S 116 37 L st μ n Q := x_aload_nN d116_37 hl h
theorem s116_38 {S : Nat × (Nat → Int32)} {L : List (Option Value)} {st : List Value} {n : Nat} {Q : xQ} {g : Nat → Nat → Int} {a : Nat} (hs : x_sh a = (9, 39)) (hp : x_pt a 11 = none) (ha : a ≠ x_out) (h : x_V S 116 41 L (.int (I (g a 11)) :: st) (x_vm g) n Q) : x_V S 116 38 L (.ref a :: st) (x_vm g) n Q := v_get (i := 11) cf9 d116_38 (by decide) w706 hs hp ha h
theorem s116_41 {S : Nat × (Nat → Int32)} {L : List (Option Value)} {st : List Value} {n : Nat} {Q : xQ} {μ : xM}  (h : x_V S 116 42 L (.int (I 2) :: st) μ n Q) : x_V S 116 41 L (st) μ n Q := x_iconst (by decide +kernel) d116_41 h
theorem s116_42 {S : Nat × (Nat → Int32)} {L : List (Option Value)} {st : List Value} {n : Nat} {Q : xQ} {μ : xM} {x y : Int} (hx : ib x) (hy : ib y) (kt : y < x → x_V S 116 61 L (st) μ n Q) (kf : x ≤ y → x_V S 116 45 L (st) μ n Q) : x_V S 116 42 L (.int (I y) :: .int (I x) :: st) μ n Q := v_icmp_gt d116_42 (by decide) hx hy kt kf
theorem s116_45 {S : Nat × (Nat → Int32)} {L : List (Option Value)} {st : List Value} {n : Nat} {Q : xQ} {μ : xM} {a : Nat} (hl : L[0]? = some (some (.ref a))) (h : x_V S 116 46 L (.ref a :: st) μ n Q) : x_V S 116 45 L (st) μ n Q := x_aload_n d116_45 hl h
theorem s116_45N {S : Nat × (Nat → Int32)} {L : List (Option Value)} {st : List Value} {n : Nat} {Q : xQ} {μ : xM} (hl : L[0]? = some (some .null)) (h : x_V S 116 46 L (.null :: st) μ n Q) : x_V S 116 45 L st μ n Q := x_aload_nN d116_45 hl h
theorem s116_46 {S : Nat × (Nat → Int32)} {L : List (Option Value)} {st : List Value} {n : Nat} {Q : xQ} {g : Nat → Nat → Int} {a : Nat} (hs : x_sh a = (9, 39)) (hp : x_pt a 12 = none) (ha : a ≠ x_out) (h : x_V S 116 49 L (.int (I (g a 12)) :: st) (x_vm g) n Q) : x_V S 116 46 L (.ref a :: st) (x_vm g) n Q := v_get (i := 12) cf9 d116_46 (by decide) w707 hs hp ha h
theorem s116_49 {S : Nat × (Nat → Int32)} {L : List (Option Value)} {st : List Value} {n : Nat} {Q : xQ} {μ : xM} {x : Int} (hx : ib x) (kt : x = 0 → x_V S 116 61 L (st) μ n Q) (kf : x ≠ 0 → x_V S 116 52 L (st) μ n Q) : x_V S 116 49 L (.int (I x) :: st) μ n Q := v_if_eq d116_49 (by decide) hx kt kf
theorem s116_52 {S : Nat × (Nat → Int32)} {L : List (Option Value)} {st : List Value} {n : Nat} {Q : xQ} {μ : xM} {a : Nat} (hl : L[0]? = some (some (.ref a))) (h : x_V S 116 53 L (.ref a :: st) μ n Q) : x_V S 116 52 L (st) μ n Q := x_aload_n d116_52 hl h
theorem s116_52N {S : Nat × (Nat → Int32)} {L : List (Option Value)} {st : List Value} {n : Nat} {Q : xQ} {μ : xM} (hl : L[0]? = some (some .null)) (h : x_V S 116 53 L (.null :: st) μ n Q) : x_V S 116 52 L st μ n Q := x_aload_nN d116_52 hl h
theorem s116_53 {S : Nat × (Nat → Int32)} {L : List (Option Value)} {st : List Value} {n : Nat} {Q : xQ} {g : Nat → Nat → Int} {a : Nat} (hs : x_sh a = (9, 39)) (hp : x_pt a 29 = none) (ha : a ≠ x_out) (h : x_V S 116 56 L (.int (I (g a 29)) :: st) (x_vm g) n Q) : x_V S 116 53 L (.ref a :: st) (x_vm g) n Q := v_get (i := 29) cf9 d116_53 (by decide) w724 hs hp ha h
theorem s116_56 {S : Nat × (Nat → Int32)} {L : List (Option Value)} {st : List Value} {n : Nat} {Q : xQ} {μ : xM}  (h : x_V S 116 58 L (.int (I 40) :: st) μ n Q) : x_V S 116 56 L (st) μ n Q := x_bipush (by decide +kernel) d116_56 h
theorem s116_58 {S : Nat × (Nat → Int32)} {L : List (Option Value)} {st : List Value} {n : Nat} {Q : xQ} {μ : xM} {x y : Int} (hx : ib x) (hy : ib y) (kt : x ≠ y → x_V S 116 63 L (st) μ n Q) (kf : x = y → x_V S 116 61 L (st) μ n Q) : x_V S 116 58 L (.int (I y) :: .int (I x) :: st) μ n Q := v_icmp_ne d116_58 (by decide) hx hy kt kf
theorem s116_61 {S : Nat × (Nat → Int32)} {L : List (Option Value)} {st : List Value} {n : Nat} {Q : xQ} {μ : xM}  (h : x_V S 116 62 L (.int (I (-1)) :: st) μ n Q) : x_V S 116 61 L (st) μ n Q := x_iconst (by decide +kernel) d116_61 h
theorem s116_62 {S : Nat × (Nat → Int32)} {L : List (Option Value)} {st : List Value} {n : Nat} {Q : xQ} {μ : xM} {x : Int32} (h : Q (.inl (some (.int x))) μ n) : x_V S 116 62 L (.int x :: []) μ n Q := x_ireturn d116_62 rfl rfl h
theorem s116_63 {S : Nat × (Nat → Int32)} {L : List (Option Value)} {st : List Value} {n : Nat} {Q : xQ} {μ : xM} {a : Nat} (hl : L[0]? = some (some (.ref a))) (h : x_V S 116 64 L (.ref a :: st) μ n Q) : x_V S 116 63 L (st) μ n Q := x_aload_n d116_63 hl h
theorem s116_63N {S : Nat × (Nat → Int32)} {L : List (Option Value)} {st : List Value} {n : Nat} {Q : xQ} {μ : xM} (hl : L[0]? = some (some .null)) (h : x_V S 116 64 L (.null :: st) μ n Q) : x_V S 116 63 L st μ n Q := x_aload_nN d116_63 hl h
theorem s116_64 {S : Nat × (Nat → Int32)} {L : List (Option Value)} {st : List Value} {n : Nat} {Q : xQ} {g : Nat → Nat → Int} {a : Nat} {v : Value} (hs : x_sh a = (9, 39)) (hp : x_pt a 31 = some v) (h : x_V S 116 67 L (v :: st) (x_vm g) n Q) : x_V S 116 64 L (.ref a :: st) (x_vm g) n Q := v_getp (i := 31) cf9 d116_64 (by decide) w726 hs hp h
theorem s116_67 {S : Nat × (Nat → Int32)} {L : List (Option Value)} {st : List Value} {n : Nat} {Q : xQ} {μ : xM} {a : Nat} (hl : L[0]? = some (some (.ref a))) (h : x_V S 116 68 L (.ref a :: st) μ n Q) : x_V S 116 67 L (st) μ n Q := x_aload_n d116_67 hl h
theorem s116_67N {S : Nat × (Nat → Int32)} {L : List (Option Value)} {st : List Value} {n : Nat} {Q : xQ} {μ : xM} (hl : L[0]? = some (some .null)) (h : x_V S 116 68 L (.null :: st) μ n Q) : x_V S 116 67 L st μ n Q := x_aload_nN d116_67 hl h
theorem s116_68 {S : Nat × (Nat → Int32)} {L : List (Option Value)} {st : List Value} {n : Nat} {Q : xQ} {g : Nat → Nat → Int} {a : Nat} (hs : x_sh a = (9, 39)) (hp : x_pt a 29 = none) (ha : a ≠ x_out) (h : x_V S 116 71 L (.int (I (g a 29)) :: st) (x_vm g) n Q) : x_V S 116 68 L (.ref a :: st) (x_vm g) n Q := v_get (i := 29) cf9 d116_68 (by decide) w724 hs hp ha h
theorem s116_71 {S : Nat × (Nat → Int32)} {L : List (Option Value)} {st : List Value} {n : Nat} {Q : xQ} {μ : xM} {a : Nat} (hl : L[0]? = some (some (.ref a))) (h : x_V S 116 72 L (.ref a :: st) μ n Q) : x_V S 116 71 L (st) μ n Q := x_aload_n d116_71 hl h
theorem s116_71N {S : Nat × (Nat → Int32)} {L : List (Option Value)} {st : List Value} {n : Nat} {Q : xQ} {μ : xM} (hl : L[0]? = some (some .null)) (h : x_V S 116 72 L (.null :: st) μ n Q) : x_V S 116 71 L st μ n Q := x_aload_nN d116_71 hl h
theorem s116_72 {S : Nat × (Nat → Int32)} {L : List (Option Value)} {st : List Value} {n : Nat} {Q : xQ} {g : Nat → Nat → Int} {a : Nat} (hs : x_sh a = (9, 39)) (hp : x_pt a 11 = none) (ha : a ≠ x_out) (h : x_V S 116 75 L (.int (I (g a 11)) :: st) (x_vm g) n Q) : x_V S 116 72 L (.ref a :: st) (x_vm g) n Q := v_get (i := 11) cf9 d116_72 (by decide) w706 hs hp ha h
theorem s116_76 {S : Nat × (Nat → Int32)} {L : List (Option Value)} {st : List Value} {n : Nat} {Q : xQ} {μ : xM} {a : Nat} (hl : L[0]? = some (some (.ref a))) (h : x_V S 116 77 L (.ref a :: st) μ n Q) : x_V S 116 76 L (st) μ n Q := x_aload_n d116_76 hl h
theorem s116_76N {S : Nat × (Nat → Int32)} {L : List (Option Value)} {st : List Value} {n : Nat} {Q : xQ} {μ : xM} (hl : L[0]? = some (some .null)) (h : x_V S 116 77 L (.null :: st) μ n Q) : x_V S 116 76 L st μ n Q := x_aload_nN d116_76 hl h
theorem s116_77 {S : Nat × (Nat → Int32)} {L : List (Option Value)} {st : List Value} {n : Nat} {Q : xQ} {g : Nat → Nat → Int} {a : Nat} {v : Value} (hs : x_sh a = (9, 39)) (hp : x_pt a 32 = some v) (h : x_V S 116 80 L (v :: st) (x_vm g) n Q) : x_V S 116 77 L (.ref a :: st) (x_vm g) n Q := v_getp (i := 32) cf9 d116_77 (by decide) w727 hs hp h
theorem s116_80 {S : Nat × (Nat → Int32)} {L : List (Option Value)} {st : List Value} {n : Nat} {Q : xQ} {μ : xM} {a : Nat} (hl : L[0]? = some (some (.ref a))) (h : x_V S 116 81 L (.ref a :: st) μ n Q) : x_V S 116 80 L (st) μ n Q := x_aload_n d116_80 hl h
theorem s116_80N {S : Nat × (Nat → Int32)} {L : List (Option Value)} {st : List Value} {n : Nat} {Q : xQ} {μ : xM} (hl : L[0]? = some (some .null)) (h : x_V S 116 81 L (.null :: st) μ n Q) : x_V S 116 80 L st μ n Q := x_aload_nN d116_80 hl h
theorem s116_81 {S : Nat × (Nat → Int32)} {L : List (Option Value)} {st : List Value} {n : Nat} {Q : xQ} {g : Nat → Nat → Int} {a : Nat} (hs : x_sh a = (9, 39)) (hp : x_pt a 29 = none) (ha : a ≠ x_out) (h : x_V S 116 84 L (.int (I (g a 29)) :: st) (x_vm g) n Q) : x_V S 116 81 L (.ref a :: st) (x_vm g) n Q := v_get (i := 29) cf9 d116_81 (by decide) w724 hs hp ha h
theorem s116_84 {S : Nat × (Nat → Int32)} {L : List (Option Value)} {st : List Value} {n : Nat} {Q : xQ} {μ : xM} {a : Nat} (hl : L[0]? = some (some (.ref a))) (h : x_V S 116 85 L (.ref a :: st) μ n Q) : x_V S 116 84 L (st) μ n Q := x_aload_n d116_84 hl h
theorem s116_84N {S : Nat × (Nat → Int32)} {L : List (Option Value)} {st : List Value} {n : Nat} {Q : xQ} {μ : xM} (hl : L[0]? = some (some .null)) (h : x_V S 116 85 L (.null :: st) μ n Q) : x_V S 116 84 L st μ n Q := x_aload_nN d116_84 hl h
theorem s116_85 {S : Nat × (Nat → Int32)} {L : List (Option Value)} {st : List Value} {n : Nat} {Q : xQ} {g : Nat → Nat → Int} {a : Nat} (hs : x_sh a = (9, 39)) (hp : x_pt a 12 = none) (ha : a ≠ x_out) (h : x_V S 116 88 L (.int (I (g a 12)) :: st) (x_vm g) n Q) : x_V S 116 85 L (.ref a :: st) (x_vm g) n Q := v_get (i := 12) cf9 d116_85 (by decide) w707 hs hp ha h
theorem s116_89 {S : Nat × (Nat → Int32)} {L : List (Option Value)} {st : List Value} {n : Nat} {Q : xQ} {μ : xM} {a : Nat} (hl : L[0]? = some (some (.ref a))) (h : x_V S 116 90 L (.ref a :: st) μ n Q) : x_V S 116 89 L (st) μ n Q := x_aload_n d116_89 hl h
theorem s116_89N {S : Nat × (Nat → Int32)} {L : List (Option Value)} {st : List Value} {n : Nat} {Q : xQ} {μ : xM} (hl : L[0]? = some (some .null)) (h : x_V S 116 90 L (.null :: st) μ n Q) : x_V S 116 89 L st μ n Q := x_aload_nN d116_89 hl h
theorem s116_90 {S : Nat × (Nat → Int32)} {L : List (Option Value)} {st : List Value} {n : Nat} {Q : xQ} {g : Nat → Nat → Int} {a : Nat} {v : Value} (hs : x_sh a = (9, 39)) (hp : x_pt a 33 = some v) (h : x_V S 116 93 L (v :: st) (x_vm g) n Q) : x_V S 116 90 L (.ref a :: st) (x_vm g) n Q := v_getp (i := 33) cf9 d116_90 (by decide) w728 hs hp h
theorem s116_93 {S : Nat × (Nat → Int32)} {L : List (Option Value)} {st : List Value} {n : Nat} {Q : xQ} {μ : xM} {a : Nat} (hl : L[0]? = some (some (.ref a))) (h : x_V S 116 94 L (.ref a :: st) μ n Q) : x_V S 116 93 L (st) μ n Q := x_aload_n d116_93 hl h
theorem s116_93N {S : Nat × (Nat → Int32)} {L : List (Option Value)} {st : List Value} {n : Nat} {Q : xQ} {μ : xM} (hl : L[0]? = some (some .null)) (h : x_V S 116 94 L (.null :: st) μ n Q) : x_V S 116 93 L st μ n Q := x_aload_nN d116_93 hl h
theorem s116_94 {S : Nat × (Nat → Int32)} {L : List (Option Value)} {st : List Value} {n : Nat} {Q : xQ} {g : Nat → Nat → Int} {a : Nat} (hs : x_sh a = (9, 39)) (hp : x_pt a 29 = none) (ha : a ≠ x_out) (h : x_V S 116 97 L (.int (I (g a 29)) :: st) (x_vm g) n Q) : x_V S 116 94 L (.ref a :: st) (x_vm g) n Q := v_get (i := 29) cf9 d116_94 (by decide) w724 hs hp ha h
theorem s116_97 {S : Nat × (Nat → Int32)} {L : List (Option Value)} {st : List Value} {n : Nat} {Q : xQ} {μ : xM}  (h : x_V S 116 98 L (.int (I 0) :: st) μ n Q) : x_V S 116 97 L (st) μ n Q := x_iconst (by decide +kernel) d116_97 h
theorem s116_99 {S : Nat × (Nat → Int32)} {L : List (Option Value)} {st : List Value} {n : Nat} {Q : xQ} {μ : xM} {a : Nat} (hl : L[0]? = some (some (.ref a))) (h : x_V S 116 100 L (.ref a :: st) μ n Q) : x_V S 116 99 L (st) μ n Q := x_aload_n d116_99 hl h
theorem s116_99N {S : Nat × (Nat → Int32)} {L : List (Option Value)} {st : List Value} {n : Nat} {Q : xQ} {μ : xM} (hl : L[0]? = some (some .null)) (h : x_V S 116 100 L (.null :: st) μ n Q) : x_V S 116 99 L st μ n Q := x_aload_nN d116_99 hl h
theorem s116_100 {S : Nat × (Nat → Int32)} {L : List (Option Value)} {st : List Value} {n : Nat} {Q : xQ} {g : Nat → Nat → Int} {a : Nat} {v : Value} (hs : x_sh a = (9, 39)) (hp : x_pt a 34 = some v) (h : x_V S 116 103 L (v :: st) (x_vm g) n Q) : x_V S 116 100 L (.ref a :: st) (x_vm g) n Q := v_getp (i := 34) cf9 d116_100 (by decide) w729 hs hp h
theorem s116_103 {S : Nat × (Nat → Int32)} {L : List (Option Value)} {st : List Value} {n : Nat} {Q : xQ} {μ : xM} {a : Nat} (hl : L[0]? = some (some (.ref a))) (h : x_V S 116 104 L (.ref a :: st) μ n Q) : x_V S 116 103 L (st) μ n Q := x_aload_n d116_103 hl h
theorem s116_103N {S : Nat × (Nat → Int32)} {L : List (Option Value)} {st : List Value} {n : Nat} {Q : xQ} {μ : xM} (hl : L[0]? = some (some .null)) (h : x_V S 116 104 L (.null :: st) μ n Q) : x_V S 116 103 L st μ n Q := x_aload_nN d116_103 hl h
theorem s116_104 {S : Nat × (Nat → Int32)} {L : List (Option Value)} {st : List Value} {n : Nat} {Q : xQ} {g : Nat → Nat → Int} {a : Nat} (hs : x_sh a = (9, 39)) (hp : x_pt a 29 = none) (ha : a ≠ x_out) (h : x_V S 116 107 L (.int (I (g a 29)) :: st) (x_vm g) n Q) : x_V S 116 104 L (.ref a :: st) (x_vm g) n Q := v_get (i := 29) cf9 d116_104 (by decide) w724 hs hp ha h
theorem s116_107 {S : Nat × (Nat → Int32)} {L : List (Option Value)} {st : List Value} {n : Nat} {Q : xQ} {μ : xM}  (h : x_V S 116 108 L (.int (I 0) :: st) μ n Q) : x_V S 116 107 L (st) μ n Q := x_iconst (by decide +kernel) d116_107 h
theorem s116_109 {S : Nat × (Nat → Int32)} {L : List (Option Value)} {st : List Value} {n : Nat} {Q : xQ} {μ : xM} {a : Nat} (hl : L[0]? = some (some (.ref a))) (h : x_V S 116 110 L (.ref a :: st) μ n Q) : x_V S 116 109 L (st) μ n Q := x_aload_n d116_109 hl h
theorem s116_109N {S : Nat × (Nat → Int32)} {L : List (Option Value)} {st : List Value} {n : Nat} {Q : xQ} {μ : xM} (hl : L[0]? = some (some .null)) (h : x_V S 116 110 L (.null :: st) μ n Q) : x_V S 116 109 L st μ n Q := x_aload_nN d116_109 hl h
theorem s116_110 {S : Nat × (Nat → Int32)} {L : List (Option Value)} {st : List Value} {n : Nat} {Q : xQ} {μ : xM} {v : Value} (hc : v.category = 1) (h : x_V S 116 111 L (v :: v :: st) μ n Q) : x_V S 116 110 L (v :: st) μ n Q := x_dup hc d116_110 h
theorem s116_111 {S : Nat × (Nat → Int32)} {L : List (Option Value)} {st : List Value} {n : Nat} {Q : xQ} {g : Nat → Nat → Int} {a : Nat} (hs : x_sh a = (9, 39)) (hp : x_pt a 29 = none) (ha : a ≠ x_out) (h : x_V S 116 114 L (.int (I (g a 29)) :: st) (x_vm g) n Q) : x_V S 116 111 L (.ref a :: st) (x_vm g) n Q := v_get (i := 29) cf9 d116_111 (by decide) w724 hs hp ha h
theorem s116_114 {S : Nat × (Nat → Int32)} {L : List (Option Value)} {st : List Value} {n : Nat} {Q : xQ} {μ : xM}  (h : x_V S 116 115 L (.int (I 1) :: st) μ n Q) : x_V S 116 114 L (st) μ n Q := x_iconst (by decide +kernel) d116_114 h
theorem s116_115 {S : Nat × (Nat → Int32)} {L : List (Option Value)} {st : List Value} {n : Nat} {Q : xQ} {μ : xM} {x y : Int} (h : x_V S 116 116 L (.int (I (x + y)) :: st) μ n Q) : x_V S 116 115 L (.int (I y) :: .int (I x) :: st) μ n Q := v_iadd d116_115 h
theorem s116_116 {S : Nat × (Nat → Int32)} {L : List (Option Value)} {st : List Value} {n : Nat} {Q : xQ} {g : Nat → Nat → Int} {a : Nat} {x : Int} (hs : x_sh a = (9, 39)) (hp : x_pt a 29 = none) (ha : a ≠ x_out) (h : x_V S 116 119 L (st) (x_vm (x_uf g a 29 x)) n Q) : x_V S 116 116 L (.int (I x) :: .ref a :: st) (x_vm g) n Q := v_put (i := 29) cf9 d116_116 (by decide) rfl w724 hs rfl hp ha h
theorem s116_119 {S : Nat × (Nat → Int32)} {L : List (Option Value)} {st : List Value} {n : Nat} {Q : xQ} {μ : xM} {a : Nat} (hl : L[0]? = some (some (.ref a))) (h : x_V S 116 120 L (.ref a :: st) μ n Q) : x_V S 116 119 L (st) μ n Q := x_aload_n d116_119 hl h
theorem s116_119N {S : Nat × (Nat → Int32)} {L : List (Option Value)} {st : List Value} {n : Nat} {Q : xQ} {μ : xM} (hl : L[0]? = some (some .null)) (h : x_V S 116 120 L (.null :: st) μ n Q) : x_V S 116 119 L st μ n Q := x_aload_nN d116_119 hl h
theorem s116_120 {S : Nat × (Nat → Int32)} {L : List (Option Value)} {st : List Value} {n : Nat} {Q : xQ} {g : Nat → Nat → Int} {a : Nat} (hs : x_sh a = (9, 39)) (hp : x_pt a 29 = none) (ha : a ≠ x_out) (h : x_V S 116 123 L (.int (I (g a 29)) :: st) (x_vm g) n Q) : x_V S 116 120 L (.ref a :: st) (x_vm g) n Q := v_get (i := 29) cf9 d116_120 (by decide) w724 hs hp ha h
theorem s116_123 {S : Nat × (Nat → Int32)} {L : List (Option Value)} {st : List Value} {n : Nat} {Q : xQ} {μ : xM}  (h : x_V S 116 124 L (.int (I 1) :: st) μ n Q) : x_V S 116 123 L (st) μ n Q := x_iconst (by decide +kernel) d116_123 h
theorem s116_124 {S : Nat × (Nat → Int32)} {L : List (Option Value)} {st : List Value} {n : Nat} {Q : xQ} {μ : xM} {x y : Int} (h : x_V S 116 125 L (.int (I (x - y)) :: st) μ n Q) : x_V S 116 124 L (.int (I y) :: .int (I x) :: st) μ n Q := v_isub d116_124 h
theorem s116_125 {S : Nat × (Nat → Int32)} {L : List (Option Value)} {st : List Value} {n : Nat} {Q : xQ} {μ : xM} {x : Int32} (h : Q (.inl (some (.int x))) μ n) : x_V S 116 125 L (.int x :: []) μ n Q := x_ireturn d116_125 rfl rfl h
theorem s116_126 {S : Nat × (Nat → Int32)} {L : List (Option Value)} {st : List Value} {n : Nat} {Q : xQ} {μ : xM} {a : Nat} (hl : L[0]? = some (some (.ref a))) (h : x_V S 116 127 L (.ref a :: st) μ n Q) : x_V S 116 126 L (st) μ n Q := x_aload_n d116_126 hl h
theorem s116_126N {S : Nat × (Nat → Int32)} {L : List (Option Value)} {st : List Value} {n : Nat} {Q : xQ} {μ : xM} (hl : L[0]? = some (some .null)) (h : x_V S 116 127 L (.null :: st) μ n Q) : x_V S 116 126 L st μ n Q := x_aload_nN d116_126 hl h
theorem s116_127 {S : Nat × (Nat → Int32)} {L : List (Option Value)} {st : List Value} {n : Nat} {Q : xQ} {μ : xM} {a : Nat} (hl : L[0]? = some (some (.ref a))) (h : x_V S 116 128 L (.ref a :: st) μ n Q) : x_V S 116 127 L (st) μ n Q := x_aload_n d116_127 hl h
theorem s116_127N {S : Nat × (Nat → Int32)} {L : List (Option Value)} {st : List Value} {n : Nat} {Q : xQ} {μ : xM} (hl : L[0]? = some (some .null)) (h : x_V S 116 128 L (.null :: st) μ n Q) : x_V S 116 127 L st μ n Q := x_aload_nN d116_127 hl h
theorem s116_128 {S : Nat × (Nat → Int32)} {L : List (Option Value)} {st : List Value} {n : Nat} {Q : xQ} {g : Nat → Nat → Int} {a : Nat} (hs : x_sh a = (9, 39)) (hp : x_pt a 11 = none) (ha : a ≠ x_out) (h : x_V S 116 131 L (.int (I (g a 11)) :: st) (x_vm g) n Q) : x_V S 116 128 L (.ref a :: st) (x_vm g) n Q := v_get (i := 11) cf9 d116_128 (by decide) w706 hs hp ha h
theorem s116_131 {S : Nat × (Nat → Int32)} {L : List (Option Value)} {st : List Value} {n : Nat} {Q : xQ} {μ : xM} {x0 : Int32} {a : Nat} (hs : x_sh a = (9, 39)) (hst : st.length ≤ 4) (h : x_V S 114 0 [some (.ref a), some (.int x0), none, none] [] μ n (x_bk S 116 131 L st Q)) : x_V S 116 131 L (.int x0 :: .ref a :: st) μ n Q := x_callV (k' := 114) (as := [.int x0]) (na := 1) d116_131 ⟨w944, by decide +kernel, by decide, by decide, by decide, by decide, by decide⟩ cf9 w941 w943 wp46 (by decide +kernel) rfl hs (fun v hv => by
    simp only [List.mem_cons, List.not_mem_nil, or_false] at hv
    rcases hv with rfl <;> first | rfl | assumption) hst h
theorem s116_134 {S : Nat × (Nat → Int32)} {L : List (Option Value)} {st : List Value} {n : Nat} {Q : xQ} {μ : xM} {x : Int32} (h : x_V S 116 135 (L.set 1 (some (.int x))) (st) μ n Q) : x_V S 116 134 L (.int x :: st) μ n Q := x_istore_n d116_134 (by decide) h
theorem s116_135 {S : Nat × (Nat → Int32)} {L : List (Option Value)} {st : List Value} {n : Nat} {Q : xQ} {μ : xM} {x : Int32} (hl : L[1]? = some (some (.int x))) (h : x_V S 116 136 L (.int x :: st) μ n Q) : x_V S 116 135 L (st) μ n Q := x_iload_n d116_135 hl h
theorem s116_136 {S : Nat × (Nat → Int32)} {L : List (Option Value)} {st : List Value} {n : Nat} {Q : xQ} {μ : xM} {x : Int} (hx : ib x) (kt : x < 0 → x_V S 116 161 L (st) μ n Q) (kf : 0 ≤ x → x_V S 116 139 L (st) μ n Q) : x_V S 116 136 L (.int (I x) :: st) μ n Q := v_if_lt d116_136 (by decide) hx kt kf
theorem s116_139 {S : Nat × (Nat → Int32)} {L : List (Option Value)} {st : List Value} {n : Nat} {Q : xQ} {μ : xM} {a : Nat} (hl : L[0]? = some (some (.ref a))) (h : x_V S 116 140 L (.ref a :: st) μ n Q) : x_V S 116 139 L (st) μ n Q := x_aload_n d116_139 hl h
theorem s116_139N {S : Nat × (Nat → Int32)} {L : List (Option Value)} {st : List Value} {n : Nat} {Q : xQ} {μ : xM} (hl : L[0]? = some (some .null)) (h : x_V S 116 140 L (.null :: st) μ n Q) : x_V S 116 139 L st μ n Q := x_aload_nN d116_139 hl h
theorem s116_140 {S : Nat × (Nat → Int32)} {L : List (Option Value)} {st : List Value} {n : Nat} {Q : xQ} {g : Nat → Nat → Int} {a : Nat} (hs : x_sh a = (9, 39)) (hp : x_pt a 8 = none) (ha : a ≠ x_out) (h : x_V S 116 143 L (.int (I (g a 8)) :: st) (x_vm g) n Q) : x_V S 116 140 L (.ref a :: st) (x_vm g) n Q := v_get (i := 8) cf9 d116_140 (by decide) w703 hs hp ha h
theorem s116_143 {S : Nat × (Nat → Int32)} {L : List (Option Value)} {st : List Value} {n : Nat} {Q : xQ} {μ : xM}  (h : x_V S 116 145 L (.int (I 71) :: st) μ n Q) : x_V S 116 143 L (st) μ n Q := x_bipush (by decide +kernel) d116_143 h
theorem s116_145 {S : Nat × (Nat → Int32)} {L : List (Option Value)} {st : List Value} {n : Nat} {Q : xQ} {μ : xM} {x y : Int} (hx : ib x) (hy : ib y) (kt : x ≠ y → x_V S 116 163 L (st) μ n Q) (kf : x = y → x_V S 116 148 L (st) μ n Q) : x_V S 116 145 L (.int (I y) :: .int (I x) :: st) μ n Q := v_icmp_ne d116_145 (by decide) hx hy kt kf
theorem s116_148 {S : Nat × (Nat → Int32)} {L : List (Option Value)} {st : List Value} {n : Nat} {Q : xQ} {μ : xM} {a : Nat} (hl : L[0]? = some (some (.ref a))) (h : x_V S 116 149 L (.ref a :: st) μ n Q) : x_V S 116 148 L (st) μ n Q := x_aload_n d116_148 hl h
theorem s116_148N {S : Nat × (Nat → Int32)} {L : List (Option Value)} {st : List Value} {n : Nat} {Q : xQ} {μ : xM} (hl : L[0]? = some (some .null)) (h : x_V S 116 149 L (.null :: st) μ n Q) : x_V S 116 148 L st μ n Q := x_aload_nN d116_148 hl h
theorem s116_149 {S : Nat × (Nat → Int32)} {L : List (Option Value)} {st : List Value} {n : Nat} {Q : xQ} {g : Nat → Nat → Int} {a : Nat} (hs : x_sh a = (9, 39)) (hp : x_pt a 12 = none) (ha : a ≠ x_out) (h : x_V S 116 152 L (.int (I (g a 12)) :: st) (x_vm g) n Q) : x_V S 116 149 L (.ref a :: st) (x_vm g) n Q := v_get (i := 12) cf9 d116_149 (by decide) w707 hs hp ha h
theorem s116_152 {S : Nat × (Nat → Int32)} {L : List (Option Value)} {st : List Value} {n : Nat} {Q : xQ} {μ : xM} {a : Nat} (hl : L[0]? = some (some (.ref a))) (h : x_V S 116 153 L (.ref a :: st) μ n Q) : x_V S 116 152 L (st) μ n Q := x_aload_n d116_152 hl h
theorem s116_152N {S : Nat × (Nat → Int32)} {L : List (Option Value)} {st : List Value} {n : Nat} {Q : xQ} {μ : xM} (hl : L[0]? = some (some .null)) (h : x_V S 116 153 L (.null :: st) μ n Q) : x_V S 116 152 L st μ n Q := x_aload_nN d116_152 hl h
theorem s116_153 {S : Nat × (Nat → Int32)} {L : List (Option Value)} {st : List Value} {n : Nat} {Q : xQ} {g : Nat → Nat → Int} {a : Nat} {v : Value} (hs : x_sh a = (9, 39)) (hp : x_pt a 33 = some v) (h : x_V S 116 156 L (v :: st) (x_vm g) n Q) : x_V S 116 153 L (.ref a :: st) (x_vm g) n Q := v_getp (i := 33) cf9 d116_153 (by decide) w728 hs hp h
theorem s116_156 {S : Nat × (Nat → Int32)} {L : List (Option Value)} {st : List Value} {n : Nat} {Q : xQ} {μ : xM} {x : Int32} (hl : L[1]? = some (some (.int x))) (h : x_V S 116 157 L (.int x :: st) μ n Q) : x_V S 116 156 L (st) μ n Q := x_iload_n d116_156 hl h
theorem s116_158 {S : Nat × (Nat → Int32)} {L : List (Option Value)} {st : List Value} {n : Nat} {Q : xQ} {μ : xM} {x y : Int} (hx : ib x) (hy : ib y) (kt : y < x → x_V S 116 163 L (st) μ n Q) (kf : x ≤ y → x_V S 116 161 L (st) μ n Q) : x_V S 116 158 L (.int (I y) :: .int (I x) :: st) μ n Q := v_icmp_gt d116_158 (by decide) hx hy kt kf
theorem s116_161 {S : Nat × (Nat → Int32)} {L : List (Option Value)} {st : List Value} {n : Nat} {Q : xQ} {μ : xM}  (h : x_V S 116 162 L (.int (I (-1)) :: st) μ n Q) : x_V S 116 161 L (st) μ n Q := x_iconst (by decide +kernel) d116_161 h
theorem s116_162 {S : Nat × (Nat → Int32)} {L : List (Option Value)} {st : List Value} {n : Nat} {Q : xQ} {μ : xM} {x : Int32} (h : Q (.inl (some (.int x))) μ n) : x_V S 116 162 L (.int x :: []) μ n Q := x_ireturn d116_162 rfl rfl h
theorem s116_163 {S : Nat × (Nat → Int32)} {L : List (Option Value)} {st : List Value} {n : Nat} {Q : xQ} {μ : xM} {a : Nat} (hl : L[0]? = some (some (.ref a))) (h : x_V S 116 164 L (.ref a :: st) μ n Q) : x_V S 116 163 L (st) μ n Q := x_aload_n d116_163 hl h
theorem s116_163N {S : Nat × (Nat → Int32)} {L : List (Option Value)} {st : List Value} {n : Nat} {Q : xQ} {μ : xM} (hl : L[0]? = some (some .null)) (h : x_V S 116 164 L (.null :: st) μ n Q) : x_V S 116 163 L st μ n Q := x_aload_nN d116_163 hl h
theorem s116_164 {S : Nat × (Nat → Int32)} {L : List (Option Value)} {st : List Value} {n : Nat} {Q : xQ} {g : Nat → Nat → Int} {a : Nat} (hs : x_sh a = (9, 39)) (hp : x_pt a 8 = none) (ha : a ≠ x_out) (h : x_V S 116 167 L (.int (I (g a 8)) :: st) (x_vm g) n Q) : x_V S 116 164 L (.ref a :: st) (x_vm g) n Q := v_get (i := 8) cf9 d116_164 (by decide) w703 hs hp ha h
theorem s116_167 {S : Nat × (Nat → Int32)} {L : List (Option Value)} {st : List Value} {n : Nat} {Q : xQ} {μ : xM}  (h : x_V S 116 169 L (.int (I 70) :: st) μ n Q) : x_V S 116 167 L (st) μ n Q := x_bipush (by decide +kernel) d116_167 h
theorem s116_169 {S : Nat × (Nat → Int32)} {L : List (Option Value)} {st : List Value} {n : Nat} {Q : xQ} {μ : xM} {x y : Int} (hx : ib x) (hy : ib y) (kt : x ≠ y → x_V S 116 182 L (st) μ n Q) (kf : x = y → x_V S 116 172 L (st) μ n Q) : x_V S 116 169 L (.int (I y) :: .int (I x) :: st) μ n Q := v_icmp_ne d116_169 (by decide) hx hy kt kf
theorem s116_172 {S : Nat × (Nat → Int32)} {L : List (Option Value)} {st : List Value} {n : Nat} {Q : xQ} {μ : xM} {a : Nat} (hl : L[0]? = some (some (.ref a))) (h : x_V S 116 173 L (.ref a :: st) μ n Q) : x_V S 116 172 L (st) μ n Q := x_aload_n d116_172 hl h
theorem s116_172N {S : Nat × (Nat → Int32)} {L : List (Option Value)} {st : List Value} {n : Nat} {Q : xQ} {μ : xM} (hl : L[0]? = some (some .null)) (h : x_V S 116 173 L (.null :: st) μ n Q) : x_V S 116 172 L st μ n Q := x_aload_nN d116_172 hl h
theorem s116_173 {S : Nat × (Nat → Int32)} {L : List (Option Value)} {st : List Value} {n : Nat} {Q : xQ} {g : Nat → Nat → Int} {a : Nat} {v : Value} (hs : x_sh a = (9, 39)) (hp : x_pt a 34 = some v) (h : x_V S 116 176 L (v :: st) (x_vm g) n Q) : x_V S 116 173 L (.ref a :: st) (x_vm g) n Q := v_getp (i := 34) cf9 d116_173 (by decide) w729 hs hp h
theorem s116_176 {S : Nat × (Nat → Int32)} {L : List (Option Value)} {st : List Value} {n : Nat} {Q : xQ} {μ : xM} {x : Int32} (hl : L[1]? = some (some (.int x))) (h : x_V S 116 177 L (.int x :: st) μ n Q) : x_V S 116 176 L (st) μ n Q := x_iload_n d116_176 hl h
theorem s116_177 {S : Nat × (Nat → Int32)} {L : List (Option Value)} {st : List Value} {n : Nat} {Q : xQ} {μ : xM}  (h : x_V S 116 178 L (.int (I 1) :: st) μ n Q) : x_V S 116 177 L (st) μ n Q := x_iconst (by decide +kernel) d116_177 h
theorem s116_179 {S : Nat × (Nat → Int32)} {L : List (Option Value)} {st : List Value} {n : Nat} {Q : xQ} {μ : xM}  (h : x_V S 116 192 L (st) μ n Q) : x_V S 116 179 L (st) μ n Q := x_goto (tgt := 192) (by decide) d116_179 h
theorem s116_182 {S : Nat × (Nat → Int32)} {L : List (Option Value)} {st : List Value} {n : Nat} {Q : xQ} {μ : xM} {a : Nat} (hl : L[0]? = some (some (.ref a))) (h : x_V S 116 183 L (.ref a :: st) μ n Q) : x_V S 116 182 L (st) μ n Q := x_aload_n d116_182 hl h
theorem s116_182N {S : Nat × (Nat → Int32)} {L : List (Option Value)} {st : List Value} {n : Nat} {Q : xQ} {μ : xM} (hl : L[0]? = some (some .null)) (h : x_V S 116 183 L (.null :: st) μ n Q) : x_V S 116 182 L st μ n Q := x_aload_nN d116_182 hl h
theorem s116_183 {S : Nat × (Nat → Int32)} {L : List (Option Value)} {st : List Value} {n : Nat} {Q : xQ} {g : Nat → Nat → Int} {a : Nat} {v : Value} (hs : x_sh a = (9, 39)) (hp : x_pt a 32 = some v) (h : x_V S 116 186 L (v :: st) (x_vm g) n Q) : x_V S 116 183 L (.ref a :: st) (x_vm g) n Q := v_getp (i := 32) cf9 d116_183 (by decide) w727 hs hp h
theorem s116_186 {S : Nat × (Nat → Int32)} {L : List (Option Value)} {st : List Value} {n : Nat} {Q : xQ} {μ : xM} {x : Int32} (hl : L[1]? = some (some (.int x))) (h : x_V S 116 187 L (.int x :: st) μ n Q) : x_V S 116 186 L (st) μ n Q := x_iload_n d116_186 hl h
theorem s116_187 {S : Nat × (Nat → Int32)} {L : List (Option Value)} {st : List Value} {n : Nat} {Q : xQ} {μ : xM} {a : Nat} (hl : L[0]? = some (some (.ref a))) (h : x_V S 116 188 L (.ref a :: st) μ n Q) : x_V S 116 187 L (st) μ n Q := x_aload_n d116_187 hl h
theorem s116_187N {S : Nat × (Nat → Int32)} {L : List (Option Value)} {st : List Value} {n : Nat} {Q : xQ} {μ : xM} (hl : L[0]? = some (some .null)) (h : x_V S 116 188 L (.null :: st) μ n Q) : x_V S 116 187 L st μ n Q := x_aload_nN d116_187 hl h
theorem s116_188 {S : Nat × (Nat → Int32)} {L : List (Option Value)} {st : List Value} {n : Nat} {Q : xQ} {g : Nat → Nat → Int} {a : Nat} (hs : x_sh a = (9, 39)) (hp : x_pt a 12 = none) (ha : a ≠ x_out) (h : x_V S 116 191 L (.int (I (g a 12)) :: st) (x_vm g) n Q) : x_V S 116 188 L (.ref a :: st) (x_vm g) n Q := v_get (i := 12) cf9 d116_188 (by decide) w707 hs hp ha h
theorem s116_192 {S : Nat × (Nat → Int32)} {L : List (Option Value)} {st : List Value} {n : Nat} {Q : xQ} {μ : xM} {x : Int32} (hl : L[1]? = some (some (.int x))) (h : x_V S 116 193 L (.int x :: st) μ n Q) : x_V S 116 192 L (st) μ n Q := x_iload_n d116_192 hl h
theorem s116_193 {S : Nat × (Nat → Int32)} {L : List (Option Value)} {st : List Value} {n : Nat} {Q : xQ} {μ : xM} {x : Int32} (h : Q (.inl (some (.int x))) μ n) : x_V S 116 193 L (.int x :: []) μ n Q := x_ireturn d116_193 rfl rfl h
theorem mC_117 : mC 117 = prog_12_method_35_code := rfl
theorem d117_0 : decode (mC 117) 0 = .ok (.aload_n 0, 1) := by rw [mC_117]; decide +kernel
theorem d117_1 : decode (mC 117) 1 = .ok (.dup, 1) := by rw [mC_117]; decide +kernel
theorem d117_2 : decode (mC 117) 2 = .ok (.getfield 204, 3) := by rw [mC_117]; decide +kernel
theorem d117_5 : decode (mC 117) 5 = .ok (.iconst 1, 1) := by rw [mC_117]; decide +kernel
theorem d117_6 : decode (mC 117) 6 = .ok (.iadd, 1) := by rw [mC_117]; decide +kernel
theorem d117_7 : decode (mC 117) 7 = .ok (.putfield 204, 3) := by rw [mC_117]; decide +kernel
theorem d117_10 : decode (mC 117) 10 = .ok (.aload_n 0, 1) := by rw [mC_117]; decide +kernel
theorem d117_11 : decode (mC 117) 11 = .ok (.invokevirtual 207, 3) := by rw [mC_117]; decide +kernel
theorem d117_14 : decode (mC 117) 14 = .ok (.istore_n 1, 1) := by rw [mC_117]; decide +kernel
theorem d117_15 : decode (mC 117) 15 = .ok (.iload_n 1, 1) := by rw [mC_117]; decide +kernel
theorem d117_16 : decode (mC 117) 16 = .ok (.ifCond .ge 18, 3) := by rw [mC_117]; decide +kernel
theorem d117_19 : decode (mC 117) 19 = .ok (.aload_n 0, 1) := by rw [mC_117]; decide +kernel
theorem d117_20 : decode (mC 117) 20 = .ok (.bipush 56, 2) := by rw [mC_117]; decide +kernel
theorem d117_22 : decode (mC 117) 22 = .ok (.aload_n 0, 1) := by rw [mC_117]; decide +kernel
theorem d117_23 : decode (mC 117) 23 = .ok (.getfield 177, 3) := by rw [mC_117]; decide +kernel
theorem d117_26 : decode (mC 117) 26 = .ok (.bipush 56, 2) := by rw [mC_117]; decide +kernel
theorem d117_28 : decode (mC 117) 28 = .ok (.iconst 0, 1) := by rw [mC_117]; decide +kernel
theorem d117_29 : decode (mC 117) 29 = .ok (.iconst 0, 1) := by rw [mC_117]; decide +kernel
theorem d117_30 : decode (mC 117) 30 = .ok (.invokevirtual 124, 3) := by rw [mC_117]; decide +kernel
theorem d117_33 : decode (mC 117) 33 = .ok (.return_, 1) := by rw [mC_117]; decide +kernel
theorem d117_34 : decode (mC 117) 34 = .ok (.aload_n 0, 1) := by rw [mC_117]; decide +kernel
theorem d117_35 : decode (mC 117) 35 = .ok (.getfield 42, 3) := by rw [mC_117]; decide +kernel
theorem d117_38 : decode (mC 117) 38 = .ok (.iload_n 1, 1) := by rw [mC_117]; decide +kernel
theorem d117_39 : decode (mC 117) 39 = .ok (.aload_n 0, 1) := by rw [mC_117]; decide +kernel
theorem d117_40 : decode (mC 117) 40 = .ok (.getfield 177, 3) := by rw [mC_117]; decide +kernel
theorem d117_43 : decode (mC 117) 43 = .ok (.iastore, 1) := by rw [mC_117]; decide +kernel
theorem d117_44 : decode (mC 117) 44 = .ok (.aload_n 0, 1) := by rw [mC_117]; decide +kernel
theorem d117_45 : decode (mC 117) 45 = .ok (.getfield 57, 3) := by rw [mC_117]; decide +kernel
theorem d117_48 : decode (mC 117) 48 = .ok (.aload_n 0, 1) := by rw [mC_117]; decide +kernel
theorem d117_49 : decode (mC 117) 49 = .ok (.getfield 189, 3) := by rw [mC_117]; decide +kernel
theorem d117_52 : decode (mC 117) 52 = .ok (.aload_n 0, 1) := by rw [mC_117]; decide +kernel
theorem d117_53 : decode (mC 117) 53 = .ok (.getfield 177, 3) := by rw [mC_117]; decide +kernel
theorem d117_56 : decode (mC 117) 56 = .ok (.iastore, 1) := by rw [mC_117]; decide +kernel
theorem d117_57 : decode (mC 117) 57 = .ok (.aload_n 0, 1) := by rw [mC_117]; decide +kernel
theorem d117_58 : decode (mC 117) 58 = .ok (.dup, 1) := by rw [mC_117]; decide +kernel
theorem d117_59 : decode (mC 117) 59 = .ok (.getfield 189, 3) := by rw [mC_117]; decide +kernel
theorem d117_62 : decode (mC 117) 62 = .ok (.iconst 1, 1) := by rw [mC_117]; decide +kernel
theorem d117_63 : decode (mC 117) 63 = .ok (.iadd, 1) := by rw [mC_117]; decide +kernel
theorem d117_64 : decode (mC 117) 64 = .ok (.putfield 189, 3) := by rw [mC_117]; decide +kernel
theorem d117_67 : decode (mC 117) 67 = .ok (.aload_n 0, 1) := by rw [mC_117]; decide +kernel
theorem d117_68 : decode (mC 117) 68 = .ok (.iload_n 1, 1) := by rw [mC_117]; decide +kernel
theorem d117_69 : decode (mC 117) 69 = .ok (.invokevirtual 211, 3) := by rw [mC_117]; decide +kernel
theorem d117_72 : decode (mC 117) 72 = .ok (.return_, 1) := by rw [mC_117]; decide +kernel
theorem s117_0 {S : Nat × (Nat → Int32)} {L : List (Option Value)} {st : List Value} {n : Nat} {Q : xQ} {μ : xM} {a : Nat} (hl : L[0]? = some (some (.ref a))) (h : x_V S 117 1 L (.ref a :: st) μ n Q) : x_V S 117 0 L (st) μ n Q := x_aload_n d117_0 hl h
theorem s117_0N {S : Nat × (Nat → Int32)} {L : List (Option Value)} {st : List Value} {n : Nat} {Q : xQ} {μ : xM} (hl : L[0]? = some (some .null)) (h : x_V S 117 1 L (.null :: st) μ n Q) : x_V S 117 0 L st μ n Q := x_aload_nN d117_0 hl h
theorem s117_1 {S : Nat × (Nat → Int32)} {L : List (Option Value)} {st : List Value} {n : Nat} {Q : xQ} {μ : xM} {v : Value} (hc : v.category = 1) (h : x_V S 117 2 L (v :: v :: st) μ n Q) : x_V S 117 1 L (v :: st) μ n Q := x_dup hc d117_1 h
theorem s117_2 {S : Nat × (Nat → Int32)} {L : List (Option Value)} {st : List Value} {n : Nat} {Q : xQ} {g : Nat → Nat → Int} {a : Nat} (hs : x_sh a = (9, 39)) (hp : x_pt a 36 = none) (ha : a ≠ x_out) (h : x_V S 117 5 L (.int (I (g a 36)) :: st) (x_vm g) n Q) : x_V S 117 2 L (.ref a :: st) (x_vm g) n Q := v_get (i := 36) cf9 d117_2 (by decide) w731 hs hp ha h
theorem s117_5 {S : Nat × (Nat → Int32)} {L : List (Option Value)} {st : List Value} {n : Nat} {Q : xQ} {μ : xM}  (h : x_V S 117 6 L (.int (I 1) :: st) μ n Q) : x_V S 117 5 L (st) μ n Q := x_iconst (by decide +kernel) d117_5 h
theorem s117_6 {S : Nat × (Nat → Int32)} {L : List (Option Value)} {st : List Value} {n : Nat} {Q : xQ} {μ : xM} {x y : Int} (h : x_V S 117 7 L (.int (I (x + y)) :: st) μ n Q) : x_V S 117 6 L (.int (I y) :: .int (I x) :: st) μ n Q := v_iadd d117_6 h
theorem s117_7 {S : Nat × (Nat → Int32)} {L : List (Option Value)} {st : List Value} {n : Nat} {Q : xQ} {g : Nat → Nat → Int} {a : Nat} {x : Int} (hs : x_sh a = (9, 39)) (hp : x_pt a 36 = none) (ha : a ≠ x_out) (h : x_V S 117 10 L (st) (x_vm (x_uf g a 36 x)) n Q) : x_V S 117 7 L (.int (I x) :: .ref a :: st) (x_vm g) n Q := v_put (i := 36) cf9 d117_7 (by decide) rfl w731 hs rfl hp ha h
theorem s117_10 {S : Nat × (Nat → Int32)} {L : List (Option Value)} {st : List Value} {n : Nat} {Q : xQ} {μ : xM} {a : Nat} (hl : L[0]? = some (some (.ref a))) (h : x_V S 117 11 L (.ref a :: st) μ n Q) : x_V S 117 10 L (st) μ n Q := x_aload_n d117_10 hl h
theorem s117_10N {S : Nat × (Nat → Int32)} {L : List (Option Value)} {st : List Value} {n : Nat} {Q : xQ} {μ : xM} (hl : L[0]? = some (some .null)) (h : x_V S 117 11 L (.null :: st) μ n Q) : x_V S 117 10 L st μ n Q := x_aload_nN d117_10 hl h
theorem s117_11 {S : Nat × (Nat → Int32)} {L : List (Option Value)} {st : List Value} {n : Nat} {Q : xQ} {μ : xM}  {a : Nat} (hs : x_sh a = (9, 39)) (hst : st.length ≤ 4) (h : x_V S 116 0 [some (.ref a), none] [] μ n (x_bk S 117 11 L st Q)) : x_V S 117 11 L (.ref a :: st) μ n Q := x_callV (k' := 116) (as := []) (na := 0) d117_11 ⟨w936, by decide +kernel, by decide, by decide, by decide, by decide, by decide⟩ cf9 w933 w935 wp44 (by decide +kernel) rfl hs (fun v hv => by
    cases hv) hst h
theorem s117_14 {S : Nat × (Nat → Int32)} {L : List (Option Value)} {st : List Value} {n : Nat} {Q : xQ} {μ : xM} {x : Int32} (h : x_V S 117 15 (L.set 1 (some (.int x))) (st) μ n Q) : x_V S 117 14 L (.int x :: st) μ n Q := x_istore_n d117_14 (by decide) h
theorem s117_15 {S : Nat × (Nat → Int32)} {L : List (Option Value)} {st : List Value} {n : Nat} {Q : xQ} {μ : xM} {x : Int32} (hl : L[1]? = some (some (.int x))) (h : x_V S 117 16 L (.int x :: st) μ n Q) : x_V S 117 15 L (st) μ n Q := x_iload_n d117_15 hl h
theorem s117_16 {S : Nat × (Nat → Int32)} {L : List (Option Value)} {st : List Value} {n : Nat} {Q : xQ} {μ : xM} {x : Int} (hx : ib x) (kt : 0 ≤ x → x_V S 117 34 L (st) μ n Q) (kf : x < 0 → x_V S 117 19 L (st) μ n Q) : x_V S 117 16 L (.int (I x) :: st) μ n Q := v_if_ge d117_16 (by decide) hx kt kf
theorem s117_19 {S : Nat × (Nat → Int32)} {L : List (Option Value)} {st : List Value} {n : Nat} {Q : xQ} {μ : xM} {a : Nat} (hl : L[0]? = some (some (.ref a))) (h : x_V S 117 20 L (.ref a :: st) μ n Q) : x_V S 117 19 L (st) μ n Q := x_aload_n d117_19 hl h
theorem s117_19N {S : Nat × (Nat → Int32)} {L : List (Option Value)} {st : List Value} {n : Nat} {Q : xQ} {μ : xM} (hl : L[0]? = some (some .null)) (h : x_V S 117 20 L (.null :: st) μ n Q) : x_V S 117 19 L st μ n Q := x_aload_nN d117_19 hl h
theorem s117_20 {S : Nat × (Nat → Int32)} {L : List (Option Value)} {st : List Value} {n : Nat} {Q : xQ} {μ : xM}  (h : x_V S 117 22 L (.int (I 56) :: st) μ n Q) : x_V S 117 20 L (st) μ n Q := x_bipush (by decide +kernel) d117_20 h
theorem s117_22 {S : Nat × (Nat → Int32)} {L : List (Option Value)} {st : List Value} {n : Nat} {Q : xQ} {μ : xM} {a : Nat} (hl : L[0]? = some (some (.ref a))) (h : x_V S 117 23 L (.ref a :: st) μ n Q) : x_V S 117 22 L (st) μ n Q := x_aload_n d117_22 hl h
theorem s117_22N {S : Nat × (Nat → Int32)} {L : List (Option Value)} {st : List Value} {n : Nat} {Q : xQ} {μ : xM} (hl : L[0]? = some (some .null)) (h : x_V S 117 23 L (.null :: st) μ n Q) : x_V S 117 22 L st μ n Q := x_aload_nN d117_22 hl h
theorem s117_23 {S : Nat × (Nat → Int32)} {L : List (Option Value)} {st : List Value} {n : Nat} {Q : xQ} {g : Nat → Nat → Int} {a : Nat} (hs : x_sh a = (9, 39)) (hp : x_pt a 10 = none) (ha : a ≠ x_out) (h : x_V S 117 26 L (.int (I (g a 10)) :: st) (x_vm g) n Q) : x_V S 117 23 L (.ref a :: st) (x_vm g) n Q := v_get (i := 10) cf9 d117_23 (by decide) w705 hs hp ha h
theorem s117_26 {S : Nat × (Nat → Int32)} {L : List (Option Value)} {st : List Value} {n : Nat} {Q : xQ} {μ : xM}  (h : x_V S 117 28 L (.int (I 56) :: st) μ n Q) : x_V S 117 26 L (st) μ n Q := x_bipush (by decide +kernel) d117_26 h
theorem s117_28 {S : Nat × (Nat → Int32)} {L : List (Option Value)} {st : List Value} {n : Nat} {Q : xQ} {μ : xM}  (h : x_V S 117 29 L (.int (I 0) :: st) μ n Q) : x_V S 117 28 L (st) μ n Q := x_iconst (by decide +kernel) d117_28 h
theorem s117_29 {S : Nat × (Nat → Int32)} {L : List (Option Value)} {st : List Value} {n : Nat} {Q : xQ} {μ : xM}  (h : x_V S 117 30 L (.int (I 0) :: st) μ n Q) : x_V S 117 29 L (st) μ n Q := x_iconst (by decide +kernel) d117_29 h
theorem s117_30 {S : Nat × (Nat → Int32)} {L : List (Option Value)} {st : List Value} {n : Nat} {Q : xQ} {μ : xM} {x0 : Int32} {x1 : Int32} {x2 : Int32} {x3 : Int32} {x4 : Int32} {a : Nat} (hs : x_sh a = (9, 39)) (hst : st.length ≤ 4) (h : x_V S 98 0 [some (.ref a), some (.int x0), some (.int x1), some (.int x2), some (.int x3), some (.int x4)] [] μ n (x_bk S 117 30 L st Q)) : x_V S 117 30 L (.int x4 :: .int x3 :: .int x2 :: .int x1 :: .int x0 :: .ref a :: st) μ n Q := x_callV (k' := 98) (as := [.int x0, .int x1, .int x2, .int x3, .int x4]) (na := 5) d117_30 ⟨w916, by decide +kernel, by decide, by decide, by decide, by decide, by decide⟩ cf9 w913 w915 wp39 (by decide +kernel) rfl hs (fun v hv => by
    simp only [List.mem_cons, List.not_mem_nil, or_false] at hv
    rcases hv with rfl | rfl | rfl | rfl | rfl <;> first | rfl | assumption) hst h
theorem s117_33 {S : Nat × (Nat → Int32)} {L : List (Option Value)} {st : List Value} {n : Nat} {Q : xQ} {μ : xM}  (h : Q (.inl none) μ n) : x_V S 117 33 L ([]) μ n Q := x_return d117_33 rfl h
theorem s117_34 {S : Nat × (Nat → Int32)} {L : List (Option Value)} {st : List Value} {n : Nat} {Q : xQ} {μ : xM} {a : Nat} (hl : L[0]? = some (some (.ref a))) (h : x_V S 117 35 L (.ref a :: st) μ n Q) : x_V S 117 34 L (st) μ n Q := x_aload_n d117_34 hl h
theorem s117_34N {S : Nat × (Nat → Int32)} {L : List (Option Value)} {st : List Value} {n : Nat} {Q : xQ} {μ : xM} (hl : L[0]? = some (some .null)) (h : x_V S 117 35 L (.null :: st) μ n Q) : x_V S 117 34 L st μ n Q := x_aload_nN d117_34 hl h
theorem s117_35 {S : Nat × (Nat → Int32)} {L : List (Option Value)} {st : List Value} {n : Nat} {Q : xQ} {g : Nat → Nat → Int} {a : Nat} {v : Value} (hs : x_sh a = (9, 39)) (hp : x_pt a 30 = some v) (h : x_V S 117 38 L (v :: st) (x_vm g) n Q) : x_V S 117 35 L (.ref a :: st) (x_vm g) n Q := v_getp (i := 30) cf9 d117_35 (by decide) w725 hs hp h
theorem s117_38 {S : Nat × (Nat → Int32)} {L : List (Option Value)} {st : List Value} {n : Nat} {Q : xQ} {μ : xM} {x : Int32} (hl : L[1]? = some (some (.int x))) (h : x_V S 117 39 L (.int x :: st) μ n Q) : x_V S 117 38 L (st) μ n Q := x_iload_n d117_38 hl h
theorem s117_39 {S : Nat × (Nat → Int32)} {L : List (Option Value)} {st : List Value} {n : Nat} {Q : xQ} {μ : xM} {a : Nat} (hl : L[0]? = some (some (.ref a))) (h : x_V S 117 40 L (.ref a :: st) μ n Q) : x_V S 117 39 L (st) μ n Q := x_aload_n d117_39 hl h
theorem s117_39N {S : Nat × (Nat → Int32)} {L : List (Option Value)} {st : List Value} {n : Nat} {Q : xQ} {μ : xM} (hl : L[0]? = some (some .null)) (h : x_V S 117 40 L (.null :: st) μ n Q) : x_V S 117 39 L st μ n Q := x_aload_nN d117_39 hl h
theorem s117_40 {S : Nat × (Nat → Int32)} {L : List (Option Value)} {st : List Value} {n : Nat} {Q : xQ} {g : Nat → Nat → Int} {a : Nat} (hs : x_sh a = (9, 39)) (hp : x_pt a 10 = none) (ha : a ≠ x_out) (h : x_V S 117 43 L (.int (I (g a 10)) :: st) (x_vm g) n Q) : x_V S 117 40 L (.ref a :: st) (x_vm g) n Q := v_get (i := 10) cf9 d117_40 (by decide) w705 hs hp ha h
theorem s117_44 {S : Nat × (Nat → Int32)} {L : List (Option Value)} {st : List Value} {n : Nat} {Q : xQ} {μ : xM} {a : Nat} (hl : L[0]? = some (some (.ref a))) (h : x_V S 117 45 L (.ref a :: st) μ n Q) : x_V S 117 44 L (st) μ n Q := x_aload_n d117_44 hl h
theorem s117_44N {S : Nat × (Nat → Int32)} {L : List (Option Value)} {st : List Value} {n : Nat} {Q : xQ} {μ : xM} (hl : L[0]? = some (some .null)) (h : x_V S 117 45 L (.null :: st) μ n Q) : x_V S 117 44 L st μ n Q := x_aload_nN d117_44 hl h
theorem s117_45 {S : Nat × (Nat → Int32)} {L : List (Option Value)} {st : List Value} {n : Nat} {Q : xQ} {g : Nat → Nat → Int} {a : Nat} {v : Value} (hs : x_sh a = (9, 39)) (hp : x_pt a 37 = some v) (h : x_V S 117 48 L (v :: st) (x_vm g) n Q) : x_V S 117 45 L (.ref a :: st) (x_vm g) n Q := v_getp (i := 37) cf9 d117_45 (by decide) w732 hs hp h
theorem s117_48 {S : Nat × (Nat → Int32)} {L : List (Option Value)} {st : List Value} {n : Nat} {Q : xQ} {μ : xM} {a : Nat} (hl : L[0]? = some (some (.ref a))) (h : x_V S 117 49 L (.ref a :: st) μ n Q) : x_V S 117 48 L (st) μ n Q := x_aload_n d117_48 hl h
theorem s117_48N {S : Nat × (Nat → Int32)} {L : List (Option Value)} {st : List Value} {n : Nat} {Q : xQ} {μ : xM} (hl : L[0]? = some (some .null)) (h : x_V S 117 49 L (.null :: st) μ n Q) : x_V S 117 48 L st μ n Q := x_aload_nN d117_48 hl h
theorem s117_49 {S : Nat × (Nat → Int32)} {L : List (Option Value)} {st : List Value} {n : Nat} {Q : xQ} {g : Nat → Nat → Int} {a : Nat} (hs : x_sh a = (9, 39)) (hp : x_pt a 35 = none) (ha : a ≠ x_out) (h : x_V S 117 52 L (.int (I (g a 35)) :: st) (x_vm g) n Q) : x_V S 117 49 L (.ref a :: st) (x_vm g) n Q := v_get (i := 35) cf9 d117_49 (by decide) w730 hs hp ha h
theorem s117_52 {S : Nat × (Nat → Int32)} {L : List (Option Value)} {st : List Value} {n : Nat} {Q : xQ} {μ : xM} {a : Nat} (hl : L[0]? = some (some (.ref a))) (h : x_V S 117 53 L (.ref a :: st) μ n Q) : x_V S 117 52 L (st) μ n Q := x_aload_n d117_52 hl h
theorem s117_52N {S : Nat × (Nat → Int32)} {L : List (Option Value)} {st : List Value} {n : Nat} {Q : xQ} {μ : xM} (hl : L[0]? = some (some .null)) (h : x_V S 117 53 L (.null :: st) μ n Q) : x_V S 117 52 L st μ n Q := x_aload_nN d117_52 hl h
theorem s117_53 {S : Nat × (Nat → Int32)} {L : List (Option Value)} {st : List Value} {n : Nat} {Q : xQ} {g : Nat → Nat → Int} {a : Nat} (hs : x_sh a = (9, 39)) (hp : x_pt a 10 = none) (ha : a ≠ x_out) (h : x_V S 117 56 L (.int (I (g a 10)) :: st) (x_vm g) n Q) : x_V S 117 53 L (.ref a :: st) (x_vm g) n Q := v_get (i := 10) cf9 d117_53 (by decide) w705 hs hp ha h
theorem s117_57 {S : Nat × (Nat → Int32)} {L : List (Option Value)} {st : List Value} {n : Nat} {Q : xQ} {μ : xM} {a : Nat} (hl : L[0]? = some (some (.ref a))) (h : x_V S 117 58 L (.ref a :: st) μ n Q) : x_V S 117 57 L (st) μ n Q := x_aload_n d117_57 hl h
theorem s117_57N {S : Nat × (Nat → Int32)} {L : List (Option Value)} {st : List Value} {n : Nat} {Q : xQ} {μ : xM} (hl : L[0]? = some (some .null)) (h : x_V S 117 58 L (.null :: st) μ n Q) : x_V S 117 57 L st μ n Q := x_aload_nN d117_57 hl h
theorem s117_58 {S : Nat × (Nat → Int32)} {L : List (Option Value)} {st : List Value} {n : Nat} {Q : xQ} {μ : xM} {v : Value} (hc : v.category = 1) (h : x_V S 117 59 L (v :: v :: st) μ n Q) : x_V S 117 58 L (v :: st) μ n Q := x_dup hc d117_58 h
theorem s117_59 {S : Nat × (Nat → Int32)} {L : List (Option Value)} {st : List Value} {n : Nat} {Q : xQ} {g : Nat → Nat → Int} {a : Nat} (hs : x_sh a = (9, 39)) (hp : x_pt a 35 = none) (ha : a ≠ x_out) (h : x_V S 117 62 L (.int (I (g a 35)) :: st) (x_vm g) n Q) : x_V S 117 59 L (.ref a :: st) (x_vm g) n Q := v_get (i := 35) cf9 d117_59 (by decide) w730 hs hp ha h
theorem s117_62 {S : Nat × (Nat → Int32)} {L : List (Option Value)} {st : List Value} {n : Nat} {Q : xQ} {μ : xM}  (h : x_V S 117 63 L (.int (I 1) :: st) μ n Q) : x_V S 117 62 L (st) μ n Q := x_iconst (by decide +kernel) d117_62 h
theorem s117_63 {S : Nat × (Nat → Int32)} {L : List (Option Value)} {st : List Value} {n : Nat} {Q : xQ} {μ : xM} {x y : Int} (h : x_V S 117 64 L (.int (I (x + y)) :: st) μ n Q) : x_V S 117 63 L (.int (I y) :: .int (I x) :: st) μ n Q := v_iadd d117_63 h
theorem s117_64 {S : Nat × (Nat → Int32)} {L : List (Option Value)} {st : List Value} {n : Nat} {Q : xQ} {g : Nat → Nat → Int} {a : Nat} {x : Int} (hs : x_sh a = (9, 39)) (hp : x_pt a 35 = none) (ha : a ≠ x_out) (h : x_V S 117 67 L (st) (x_vm (x_uf g a 35 x)) n Q) : x_V S 117 64 L (.int (I x) :: .ref a :: st) (x_vm g) n Q := v_put (i := 35) cf9 d117_64 (by decide) rfl w730 hs rfl hp ha h
theorem s117_67 {S : Nat × (Nat → Int32)} {L : List (Option Value)} {st : List Value} {n : Nat} {Q : xQ} {μ : xM} {a : Nat} (hl : L[0]? = some (some (.ref a))) (h : x_V S 117 68 L (.ref a :: st) μ n Q) : x_V S 117 67 L (st) μ n Q := x_aload_n d117_67 hl h
theorem s117_67N {S : Nat × (Nat → Int32)} {L : List (Option Value)} {st : List Value} {n : Nat} {Q : xQ} {μ : xM} (hl : L[0]? = some (some .null)) (h : x_V S 117 68 L (.null :: st) μ n Q) : x_V S 117 67 L st μ n Q := x_aload_nN d117_67 hl h
theorem s117_68 {S : Nat × (Nat → Int32)} {L : List (Option Value)} {st : List Value} {n : Nat} {Q : xQ} {μ : xM} {x : Int32} (hl : L[1]? = some (some (.int x))) (h : x_V S 117 69 L (.int x :: st) μ n Q) : x_V S 117 68 L (st) μ n Q := x_iload_n d117_68 hl h
theorem s117_69 {S : Nat × (Nat → Int32)} {L : List (Option Value)} {st : List Value} {n : Nat} {Q : xQ} {μ : xM} {x0 : Int32} {a : Nat} (hs : x_sh a = (9, 39)) (hst : st.length ≤ 4) (h : x_V S 115 0 [some (.ref a), some (.int x0)] [] μ n (x_bk S 117 69 L st Q)) : x_V S 117 69 L (.int x0 :: .ref a :: st) μ n Q := x_callV (k' := 115) (as := [.int x0]) (na := 1) d117_69 ⟨w952, by decide +kernel, by decide, by decide, by decide, by decide, by decide⟩ cf9 w949 w951 wp48 (by decide +kernel) rfl hs (fun v hv => by
    simp only [List.mem_cons, List.not_mem_nil, or_false] at hv
    rcases hv with rfl <;> first | rfl | assumption) hst h
theorem s117_72 {S : Nat × (Nat → Int32)} {L : List (Option Value)} {st : List Value} {n : Nat} {Q : xQ} {μ : xM}  (h : Q (.inl none) μ n) : x_V S 117 72 L ([]) μ n Q := x_return d117_72 rfl h
