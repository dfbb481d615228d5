/-! 15.s-model2: decode rows and step rows of the reference; laid by a program. -/
theorem mC_98 : mC 98 = prog_12_method_16_code := rfl
theorem d98_0 : decode (mC 98) 0 = .ok (.aload_n 0, 1) := by rw [mC_98]; decide +kernel
theorem d98_1 : decode (mC 98) 1 = .ok (.getfield 35, 3) := by rw [mC_98]; decide +kernel
theorem d98_4 : decode (mC 98) 4 = .ok (.aload_n 0, 1) := by rw [mC_98]; decide +kernel
theorem d98_5 : decode (mC 98) 5 = .ok (.getfield 32, 3) := by rw [mC_98]; decide +kernel
theorem d98_8 : decode (mC 98) 8 = .ok (.iload_n 1, 1) := by rw [mC_98]; decide +kernel
theorem d98_9 : decode (mC 98) 9 = .ok (.bipush 56, 2) := by rw [mC_98]; decide +kernel
theorem d98_11 : decode (mC 98) 11 = .ok (.if_icmp .ne 7, 3) := by rw [mC_98]; decide +kernel
theorem d98_14 : decode (mC 98) 14 = .ok (.iconst 1, 1) := by rw [mC_98]; decide +kernel
theorem d98_15 : decode (mC 98) 15 = .ok (.goto 4, 3) := by rw [mC_98]; decide +kernel
theorem d98_18 : decode (mC 98) 18 = .ok (.iconst 0, 1) := by rw [mC_98]; decide +kernel
theorem d98_19 : decode (mC 98) 19 = .ok (.bastore, 1) := by rw [mC_98]; decide +kernel
theorem d98_20 : decode (mC 98) 20 = .ok (.aload_n 0, 1) := by rw [mC_98]; decide +kernel
theorem d98_21 : decode (mC 98) 21 = .ok (.getfield 39, 3) := by rw [mC_98]; decide +kernel
theorem d98_24 : decode (mC 98) 24 = .ok (.iconst 4, 1) := by rw [mC_98]; decide +kernel
theorem d98_25 : decode (mC 98) 25 = .ok (.aload_n 0, 1) := by rw [mC_98]; decide +kernel
theorem d98_26 : decode (mC 98) 26 = .ok (.getfield 32, 3) := by rw [mC_98]; decide +kernel
theorem d98_29 : decode (mC 98) 29 = .ok (.imul, 1) := by rw [mC_98]; decide +kernel
theorem d98_30 : decode (mC 98) 30 = .ok (.iload_n 2, 1) := by rw [mC_98]; decide +kernel
theorem d98_31 : decode (mC 98) 31 = .ok (.iastore, 1) := by rw [mC_98]; decide +kernel
theorem d98_32 : decode (mC 98) 32 = .ok (.aload_n 0, 1) := by rw [mC_98]; decide +kernel
theorem d98_33 : decode (mC 98) 33 = .ok (.getfield 39, 3) := by rw [mC_98]; decide +kernel
theorem d98_36 : decode (mC 98) 36 = .ok (.iconst 4, 1) := by rw [mC_98]; decide +kernel
theorem d98_37 : decode (mC 98) 37 = .ok (.aload_n 0, 1) := by rw [mC_98]; decide +kernel
theorem d98_38 : decode (mC 98) 38 = .ok (.getfield 32, 3) := by rw [mC_98]; decide +kernel
theorem d98_41 : decode (mC 98) 41 = .ok (.imul, 1) := by rw [mC_98]; decide +kernel
theorem d98_42 : decode (mC 98) 42 = .ok (.iconst 1, 1) := by rw [mC_98]; decide +kernel
theorem d98_43 : decode (mC 98) 43 = .ok (.iadd, 1) := by rw [mC_98]; decide +kernel
theorem d98_44 : decode (mC 98) 44 = .ok (.iload_n 3, 1) := by rw [mC_98]; decide +kernel
theorem d98_45 : decode (mC 98) 45 = .ok (.iastore, 1) := by rw [mC_98]; decide +kernel
theorem d98_46 : decode (mC 98) 46 = .ok (.aload_n 0, 1) := by rw [mC_98]; decide +kernel
theorem d98_47 : decode (mC 98) 47 = .ok (.getfield 39, 3) := by rw [mC_98]; decide +kernel
theorem d98_50 : decode (mC 98) 50 = .ok (.iconst 4, 1) := by rw [mC_98]; decide +kernel
theorem d98_51 : decode (mC 98) 51 = .ok (.aload_n 0, 1) := by rw [mC_98]; decide +kernel
theorem d98_52 : decode (mC 98) 52 = .ok (.getfield 32, 3) := by rw [mC_98]; decide +kernel
theorem d98_55 : decode (mC 98) 55 = .ok (.imul, 1) := by rw [mC_98]; decide +kernel
theorem d98_56 : decode (mC 98) 56 = .ok (.iconst 2, 1) := by rw [mC_98]; decide +kernel
theorem d98_57 : decode (mC 98) 57 = .ok (.iadd, 1) := by rw [mC_98]; decide +kernel
theorem d98_58 : decode (mC 98) 58 = .ok (.iload 4, 2) := by rw [mC_98]; decide +kernel
theorem d98_60 : decode (mC 98) 60 = .ok (.iastore, 1) := by rw [mC_98]; decide +kernel
theorem d98_61 : decode (mC 98) 61 = .ok (.aload_n 0, 1) := by rw [mC_98]; decide +kernel
theorem d98_62 : decode (mC 98) 62 = .ok (.getfield 39, 3) := by rw [mC_98]; decide +kernel
theorem d98_65 : decode (mC 98) 65 = .ok (.iconst 4, 1) := by rw [mC_98]; decide +kernel
theorem d98_66 : decode (mC 98) 66 = .ok (.aload_n 0, 1) := by rw [mC_98]; decide +kernel
theorem d98_67 : decode (mC 98) 67 = .ok (.getfield 32, 3) := by rw [mC_98]; decide +kernel
theorem d98_70 : decode (mC 98) 70 = .ok (.imul, 1) := by rw [mC_98]; decide +kernel
theorem d98_71 : decode (mC 98) 71 = .ok (.iconst 3, 1) := by rw [mC_98]; decide +kernel
theorem d98_72 : decode (mC 98) 72 = .ok (.iadd, 1) := by rw [mC_98]; decide +kernel
theorem d98_73 : decode (mC 98) 73 = .ok (.iload 5, 2) := by rw [mC_98]; decide +kernel
theorem d98_75 : decode (mC 98) 75 = .ok (.iastore, 1) := by rw [mC_98]; decide +kernel
theorem d98_76 : decode (mC 98) 76 = .ok (.aload_n 0, 1) := by rw [mC_98]; decide +kernel
theorem d98_77 : decode (mC 98) 77 = .ok (.getfield 118, 3) := by rw [mC_98]; decide +kernel
theorem d98_80 : decode (mC 98) 80 = .ok (.ifCond .eq 19, 3) := by rw [mC_98]; decide +kernel
theorem d98_83 : decode (mC 98) 83 = .ok (.aload_n 0, 1) := by rw [mC_98]; decide +kernel
theorem d98_84 : decode (mC 98) 84 = .ok (.iload_n 1, 1) := by rw [mC_98]; decide +kernel
theorem d98_85 : decode (mC 98) 85 = .ok (.aload_n 0, 1) := by rw [mC_98]; decide +kernel
theorem d98_86 : decode (mC 98) 86 = .ok (.getfield 32, 3) := by rw [mC_98]; decide +kernel
theorem d98_89 : decode (mC 98) 89 = .ok (.iconst 0, 1) := by rw [mC_98]; decide +kernel
theorem d98_90 : decode (mC 98) 90 = .ok (.iload_n 2, 1) := by rw [mC_98]; decide +kernel
theorem d98_91 : decode (mC 98) 91 = .ok (.iload_n 3, 1) := by rw [mC_98]; decide +kernel
theorem d98_92 : decode (mC 98) 92 = .ok (.iload 4, 2) := by rw [mC_98]; decide +kernel
theorem d98_94 : decode (mC 98) 94 = .ok (.iload 5, 2) := by rw [mC_98]; decide +kernel
theorem d98_96 : decode (mC 98) 96 = .ok (.invokevirtual 121, 3) := by rw [mC_98]; decide +kernel
theorem d98_99 : decode (mC 98) 99 = .ok (.aload_n 0, 1) := by rw [mC_98]; decide +kernel
theorem d98_100 : decode (mC 98) 100 = .ok (.dup, 1) := by rw [mC_98]; decide +kernel
theorem d98_101 : decode (mC 98) 101 = .ok (.getfield 32, 3) := by rw [mC_98]; decide +kernel
theorem d98_104 : decode (mC 98) 104 = .ok (.iconst 1, 1) := by rw [mC_98]; decide +kernel
theorem d98_105 : decode (mC 98) 105 = .ok (.iadd, 1) := by rw [mC_98]; decide +kernel
theorem d98_106 : decode (mC 98) 106 = .ok (.putfield 32, 3) := by rw [mC_98]; decide +kernel
theorem d98_109 : decode (mC 98) 109 = .ok (.return_, 1) := by rw [mC_98]; decide +kernel
theorem s98_0 {S : Nat × (Nat → Int32)} {L : List (Option Value)} {st : List Value} {n : Nat} {Q : xQ} {μ : xM} {a : Nat} (hl : L[0]? = some (some (.ref a))) (h : x_V S 98 1 L (.ref a :: st) μ n Q) : x_V S 98 0 L (st) μ n Q := x_aload_n d98_0 hl h
theorem s98_0N {S : Nat × (Nat → Int32)} {L : List (Option Value)} {st : List Value} {n : Nat} {Q : xQ} {μ : xM} (hl : L[0]? = some (some .null)) (h : x_V S 98 1 L (.null :: st) μ n Q) : x_V S 98 0 L st μ n Q := x_aload_nN d98_0 hl h
theorem s98_1 {S : Nat × (Nat → Int32)} {L : List (Option Value)} {st : List Value} {n : Nat} {Q : xQ} {g : Nat → Nat → Int} {a : Nat} {v : Value} (hs : x_sh a = (9, 39)) (hp : x_pt a 27 = some v) (h : x_V S 98 4 L (v :: st) (x_vm g) n Q) : x_V S 98 1 L (.ref a :: st) (x_vm g) n Q := v_getp (i := 27) cf9 d98_1 (by decide) w722 hs hp h
theorem s98_4 {S : Nat × (Nat → Int32)} {L : List (Option Value)} {st : List Value} {n : Nat} {Q : xQ} {μ : xM} {a : Nat} (hl : L[0]? = some (some (.ref a))) (h : x_V S 98 5 L (.ref a :: st) μ n Q) : x_V S 98 4 L (st) μ n Q := x_aload_n d98_4 hl h
theorem s98_4N {S : Nat × (Nat → Int32)} {L : List (Option Value)} {st : List Value} {n : Nat} {Q : xQ} {μ : xM} (hl : L[0]? = some (some .null)) (h : x_V S 98 5 L (.null :: st) μ n Q) : x_V S 98 4 L st μ n Q := x_aload_nN d98_4 hl h
theorem s98_5 {S : Nat × (Nat → Int32)} {L : List (Option Value)} {st : List Value} {n : Nat} {Q : xQ} {g : Nat → Nat → Int} {a : Nat} (hs : x_sh a = (9, 39)) (hp : x_pt a 21 = none) (ha : a ≠ x_out) (h : x_V S 98 8 L (.int (I (g a 21)) :: st) (x_vm g) n Q) : x_V S 98 5 L (.ref a :: st) (x_vm g) n Q := v_get (i := 21) cf9 d98_5 (by decide) w716 hs hp ha h
theorem s98_8 {S : Nat × (Nat → Int32)} {L : List (Option Value)} {st : List Value} {n : Nat} {Q : xQ} {μ : xM} {x : Int32} (hl : L[1]? = some (some (.int x))) (h : x_V S 98 9 L (.int x :: st) μ n Q) : x_V S 98 8 L (st) μ n Q := x_iload_n d98_8 hl h
theorem s98_9 {S : Nat × (Nat → Int32)} {L : List (Option Value)} {st : List Value} {n : Nat} {Q : xQ} {μ : xM}  (h : x_V S 98 11 L (.int (I 56) :: st) μ n Q) : x_V S 98 9 L (st) μ n Q := x_bipush (by decide +kernel) d98_9 h
theorem s98_11 {S : Nat × (Nat → Int32)} {L : List (Option Value)} {st : List Value} {n : Nat} {Q : xQ} {μ : xM} {x y : Int} (hx : ib x) (hy : ib y) (kt : x ≠ y → x_V S 98 18 L (st) μ n Q) (kf : x = y → x_V S 98 14 L (st) μ n Q) : x_V S 98 11 L (.int (I y) :: .int (I x) :: st) μ n Q := v_icmp_ne d98_11 (by decide) hx hy kt kf
theorem s98_14 {S : Nat × (Nat → Int32)} {L : List (Option Value)} {st : List Value} {n : Nat} {Q : xQ} {μ : xM}  (h : x_V S 98 15 L (.int (I 1) :: st) μ n Q) : x_V S 98 14 L (st) μ n Q := x_iconst (by decide +kernel) d98_14 h
theorem s98_15 {S : Nat × (Nat → Int32)} {L : List (Option Value)} {st : List Value} {n : Nat} {Q : xQ} {μ : xM}  (h : x_V S 98 19 L (st) μ n Q) : x_V S 98 15 L (st) μ n Q := x_goto (tgt := 19) (by decide) d98_15 h
theorem s98_18 {S : Nat × (Nat → Int32)} {L : List (Option Value)} {st : List Value} {n : Nat} {Q : xQ} {μ : xM}  (h : x_V S 98 19 L (.int (I 0) :: st) μ n Q) : x_V S 98 18 L (st) μ n Q := x_iconst (by decide +kernel) d98_18 h
theorem s98_20 {S : Nat × (Nat → Int32)} {L : List (Option Value)} {st : List Value} {n : Nat} {Q : xQ} {μ : xM} {a : Nat} (hl : L[0]? = some (some (.ref a))) (h : x_V S 98 21 L (.ref a :: st) μ n Q) : x_V S 98 20 L (st) μ n Q := x_aload_n d98_20 hl h
theorem s98_20N {S : Nat × (Nat → Int32)} {L : List (Option Value)} {st : List Value} {n : Nat} {Q : xQ} {μ : xM} (hl : L[0]? = some (some .null)) (h : x_V S 98 21 L (.null :: st) μ n Q) : x_V S 98 20 L st μ n Q := x_aload_nN d98_20 hl h
theorem s98_21 {S : Nat × (Nat → Int32)} {L : List (Option Value)} {st : List Value} {n : Nat} {Q : xQ} {g : Nat → Nat → Int} {a : Nat} {v : Value} (hs : x_sh a = (9, 39)) (hp : x_pt a 28 = some v) (h : x_V S 98 24 L (v :: st) (x_vm g) n Q) : x_V S 98 21 L (.ref a :: st) (x_vm g) n Q := v_getp (i := 28) cf9 d98_21 (by decide) w723 hs hp h
theorem s98_24 {S : Nat × (Nat → Int32)} {L : List (Option Value)} {st : List Value} {n : Nat} {Q : xQ} {μ : xM}  (h : x_V S 98 25 L (.int (I 4) :: st) μ n Q) : x_V S 98 24 L (st) μ n Q := x_iconst (by decide +kernel) d98_24 h
theorem s98_25 {S : Nat × (Nat → Int32)} {L : List (Option Value)} {st : List Value} {n : Nat} {Q : xQ} {μ : xM} {a : Nat} (hl : L[0]? = some (some (.ref a))) (h : x_V S 98 26 L (.ref a :: st) μ n Q) : x_V S 98 25 L (st) μ n Q := x_aload_n d98_25 hl h
theorem s98_25N {S : Nat × (Nat → Int32)} {L : List (Option Value)} {st : List Value} {n : Nat} {Q : xQ} {μ : xM} (hl : L[0]? = some (some .null)) (h : x_V S 98 26 L (.null :: st) μ n Q) : x_V S 98 25 L st μ n Q := x_aload_nN d98_25 hl h
theorem s98_26 {S : Nat × (Nat → Int32)} {L : List (Option Value)} {st : List Value} {n : Nat} {Q : xQ} {g : Nat → Nat → Int} {a : Nat} (hs : x_sh a = (9, 39)) (hp : x_pt a 21 = none) (ha : a ≠ x_out) (h : x_V S 98 29 L (.int (I (g a 21)) :: st) (x_vm g) n Q) : x_V S 98 26 L (.ref a :: st) (x_vm g) n Q := v_get (i := 21) cf9 d98_26 (by decide) w716 hs hp ha h
theorem s98_29 {S : Nat × (Nat → Int32)} {L : List (Option Value)} {st : List Value} {n : Nat} {Q : xQ} {μ : xM} {x y : Int} (h : x_V S 98 30 L (.int (I (x * y)) :: st) μ n Q) : x_V S 98 29 L (.int (I y) :: .int (I x) :: st) μ n Q := v_imul d98_29 h
theorem s98_30 {S : Nat × (Nat → Int32)} {L : List (Option Value)} {st : List Value} {n : Nat} {Q : xQ} {μ : xM} {x : Int32} (hl : L[2]? = some (some (.int x))) (h : x_V S 98 31 L (.int x :: st) μ n Q) : x_V S 98 30 L (st) μ n Q := x_iload_n d98_30 hl h
theorem s98_32 {S : Nat × (Nat → Int32)} {L : List (Option Value)} {st : List Value} {n : Nat} {Q : xQ} {μ : xM} {a : Nat} (hl : L[0]? = some (some (.ref a))) (h : x_V S 98 33 L (.ref a :: st) μ n Q) : x_V S 98 32 L (st) μ n Q := x_aload_n d98_32 hl h
theorem s98_32N {S : Nat × (Nat → Int32)} {L : List (Option Value)} {st : List Value} {n : Nat} {Q : xQ} {μ : xM} (hl : L[0]? = some (some .null)) (h : x_V S 98 33 L (.null :: st) μ n Q) : x_V S 98 32 L st μ n Q := x_aload_nN d98_32 hl h
theorem s98_33 {S : Nat × (Nat → Int32)} {L : List (Option Value)} {st : List Value} {n : Nat} {Q : xQ} {g : Nat → Nat → Int} {a : Nat} {v : Value} (hs : x_sh a = (9, 39)) (hp : x_pt a 28 = some v) (h : x_V S 98 36 L (v :: st) (x_vm g) n Q) : x_V S 98 33 L (.ref a :: st) (x_vm g) n Q := v_getp (i := 28) cf9 d98_33 (by decide) w723 hs hp h
theorem s98_36 {S : Nat × (Nat → Int32)} {L : List (Option Value)} {st : List Value} {n : Nat} {Q : xQ} {μ : xM}  (h : x_V S 98 37 L (.int (I 4) :: st) μ n Q) : x_V S 98 36 L (st) μ n Q := x_iconst (by decide +kernel) d98_36 h
theorem s98_37 {S : Nat × (Nat → Int32)} {L : List (Option Value)} {st : List Value} {n : Nat} {Q : xQ} {μ : xM} {a : Nat} (hl : L[0]? = some (some (.ref a))) (h : x_V S 98 38 L (.ref a :: st) μ n Q) : x_V S 98 37 L (st) μ n Q := x_aload_n d98_37 hl h
theorem s98_37N {S : Nat × (Nat → Int32)} {L : List (Option Value)} {st : List Value} {n : Nat} {Q : xQ} {μ : xM} (hl : L[0]? = some (some .null)) (h : x_V S 98 38 L (.null :: st) μ n Q) : x_V S 98 37 L st μ n Q := x_aload_nN d98_37 hl h
theorem s98_38 {S : Nat × (Nat → Int32)} {L : List (Option Value)} {st : List Value} {n : Nat} {Q : xQ} {g : Nat → Nat → Int} {a : Nat} (hs : x_sh a = (9, 39)) (hp : x_pt a 21 = none) (ha : a ≠ x_out) (h : x_V S 98 41 L (.int (I (g a 21)) :: st) (x_vm g) n Q) : x_V S 98 38 L (.ref a :: st) (x_vm g) n Q := v_get (i := 21) cf9 d98_38 (by decide) w716 hs hp ha h
theorem s98_41 {S : Nat × (Nat → Int32)} {L : List (Option Value)} {st : List Value} {n : Nat} {Q : xQ} {μ : xM} {x y : Int} (h : x_V S 98 42 L (.int (I (x * y)) :: st) μ n Q) : x_V S 98 41 L (.int (I y) :: .int (I x) :: st) μ n Q := v_imul d98_41 h
theorem s98_42 {S : Nat × (Nat → Int32)} {L : List (Option Value)} {st : List Value} {n : Nat} {Q : xQ} {μ : xM}  (h : x_V S 98 43 L (.int (I 1) :: st) μ n Q) : x_V S 98 42 L (st) μ n Q := x_iconst (by decide +kernel) d98_42 h
theorem s98_43 {S : Nat × (Nat → Int32)} {L : List (Option Value)} {st : List Value} {n : Nat} {Q : xQ} {μ : xM} {x y : Int} (h : x_V S 98 44 L (.int (I (x + y)) :: st) μ n Q) : x_V S 98 43 L (.int (I y) :: .int (I x) :: st) μ n Q := v_iadd d98_43 h
theorem s98_44 {S : Nat × (Nat → Int32)} {L : List (Option Value)} {st : List Value} {n : Nat} {Q : xQ} {μ : xM} {x : Int32} (hl : L[3]? = some (some (.int x))) (h : x_V S 98 45 L (.int x :: st) μ n Q) : x_V S 98 44 L (st) μ n Q := x_iload_n d98_44 hl h
theorem s98_46 {S : Nat × (Nat → Int32)} {L : List (Option Value)} {st : List Value} {n : Nat} {Q : xQ} {μ : xM} {a : Nat} (hl : L[0]? = some (some (.ref a))) (h : x_V S 98 47 L (.ref a :: st) μ n Q) : x_V S 98 46 L (st) μ n Q := x_aload_n d98_46 hl h
theorem s98_46N {S : Nat × (Nat → Int32)} {L : List (Option Value)} {st : List Value} {n : Nat} {Q : xQ} {μ : xM} (hl : L[0]? = some (some .null)) (h : x_V S 98 47 L (.null :: st) μ n Q) : x_V S 98 46 L st μ n Q := x_aload_nN d98_46 hl h
theorem s98_47 {S : Nat × (Nat → Int32)} {L : List (Option Value)} {st : List Value} {n : Nat} {Q : xQ} {g : Nat → Nat → Int} {a : Nat} {v : Value} (hs : x_sh a = (9, 39)) (hp : x_pt a 28 = some v) (h : x_V S 98 50 L (v :: st) (x_vm g) n Q) : x_V S 98 47 L (.ref a :: st) (x_vm g) n Q := v_getp (i := 28) cf9 d98_47 (by decide) w723 hs hp h
theorem s98_50 {S : Nat × (Nat → Int32)} {L : List (Option Value)} {st : List Value} {n : Nat} {Q : xQ} {μ : xM}  (h : x_V S 98 51 L (.int (I 4) :: st) μ n Q) : x_V S 98 50 L (st) μ n Q := x_iconst (by decide +kernel) d98_50 h
theorem s98_51 {S : Nat × (Nat → Int32)} {L : List (Option Value)} {st : List Value} {n : Nat} {Q : xQ} {μ : xM} {a : Nat} (hl : L[0]? = some (some (.ref a))) (h : x_V S 98 52 L (.ref a :: st) μ n Q) : x_V S 98 51 L (st) μ n Q := x_aload_n d98_51 hl h
theorem s98_51N {S : Nat × (Nat → Int32)} {L : List (Option Value)} {st : List Value} {n : Nat} {Q : xQ} {μ : xM} (hl : L[0]? = some (some .null)) (h : x_V S 98 52 L (.null :: st) μ n Q) : x_V S 98 51 L st μ n Q := x_aload_nN d98_51 hl h
theorem s98_52 {S : Nat × (Nat → Int32)} {L : List (Option Value)} {st : List Value} {n : Nat} {Q : xQ} {g : Nat → Nat → Int} {a : Nat} (hs : x_sh a = (9, 39)) (hp : x_pt a 21 = none) (ha : a ≠ x_out) (h : x_V S 98 55 L (.int (I (g a 21)) :: st) (x_vm g) n Q) : x_V S 98 52 L (.ref a :: st) (x_vm g) n Q := v_get (i := 21) cf9 d98_52 (by decide) w716 hs hp ha h
theorem s98_55 {S : Nat × (Nat → Int32)} {L : List (Option Value)} {st : List Value} {n : Nat} {Q : xQ} {μ : xM} {x y : Int} (h : x_V S 98 56 L (.int (I (x * y)) :: st) μ n Q) : x_V S 98 55 L (.int (I y) :: .int (I x) :: st) μ n Q := v_imul d98_55 h
theorem s98_56 {S : Nat × (Nat → Int32)} {L : List (Option Value)} {st : List Value} {n : Nat} {Q : xQ} {μ : xM}  (h : x_V S 98 57 L (.int (I 2) :: st) μ n Q) : x_V S 98 56 L (st) μ n Q := x_iconst (by decide +kernel) d98_56 h
theorem s98_57 {S : Nat × (Nat → Int32)} {L : List (Option Value)} {st : List Value} {n : Nat} {Q : xQ} {μ : xM} {x y : Int} (h : x_V S 98 58 L (.int (I (x + y)) :: st) μ n Q) : x_V S 98 57 L (.int (I y) :: .int (I x) :: st) μ n Q := v_iadd d98_57 h
theorem s98_58 {S : Nat × (Nat → Int32)} {L : List (Option Value)} {st : List Value} {n : Nat} {Q : xQ} {μ : xM} {x : Int32} (hl : L[4]? = some (some (.int x))) (h : x_V S 98 60 L (.int x :: st) μ n Q) : x_V S 98 58 L (st) μ n Q := x_iload d98_58 hl h
theorem s98_61 {S : Nat × (Nat → Int32)} {L : List (Option Value)} {st : List Value} {n : Nat} {Q : xQ} {μ : xM} {a : Nat} (hl : L[0]? = some (some (.ref a))) (h : x_V S 98 62 L (.ref a :: st) μ n Q) : x_V S 98 61 L (st) μ n Q := x_aload_n d98_61 hl h
theorem s98_61N {S : Nat × (Nat → Int32)} {L : List (Option Value)} {st : List Value} {n : Nat} {Q : xQ} {μ : xM} (hl : L[0]? = some (some .null)) (h : x_V S 98 62 L (.null :: st) μ n Q) : x_V S 98 61 L st μ n Q := x_aload_nN d98_61 hl h
theorem s98_62 {S : Nat × (Nat → Int32)} {L : List (Option Value)} {st : List Value} {n : Nat} {Q : xQ} {g : Nat → Nat → Int} {a : Nat} {v : Value} (hs : x_sh a = (9, 39)) (hp : x_pt a 28 = some v) (h : x_V S 98 65 L (v :: st) (x_vm g) n Q) : x_V S 98 62 L (.ref a :: st) (x_vm g) n Q := v_getp (i := 28) cf9 d98_62 (by decide) w723 hs hp h
theorem s98_65 {S : Nat × (Nat → Int32)} {L : List (Option Value)} {st : List Value} {n : Nat} {Q : xQ} {μ : xM}  (h : x_V S 98 66 L (.int (I 4) :: st) μ n Q) : x_V S 98 65 L (st) μ n Q := x_iconst (by decide +kernel) d98_65 h
theorem s98_66 {S : Nat × (Nat → Int32)} {L : List (Option Value)} {st : List Value} {n : Nat} {Q : xQ} {μ : xM} {a : Nat} (hl : L[0]? = some (some (.ref a))) (h : x_V S 98 67 L (.ref a :: st) μ n Q) : x_V S 98 66 L (st) μ n Q := x_aload_n d98_66 hl h
theorem s98_66N {S : Nat × (Nat → Int32)} {L : List (Option Value)} {st : List Value} {n : Nat} {Q : xQ} {μ : xM} (hl : L[0]? = some (some .null)) (h : x_V S 98 67 L (.null :: st) μ n Q) : x_V S 98 66 L st μ n Q := x_aload_nN d98_66 hl h
theorem s98_67 {S : Nat × (Nat → Int32)} {L : List (Option Value)} {st : List Value} {n : Nat} {Q : xQ} {g : Nat → Nat → Int} {a : Nat} (hs : x_sh a = (9, 39)) (hp : x_pt a 21 = none) (ha : a ≠ x_out) (h : x_V S 98 70 L (.int (I (g a 21)) :: st) (x_vm g) n Q) : x_V S 98 67 L (.ref a :: st) (x_vm g) n Q := v_get (i := 21) cf9 d98_67 (by decide) w716 hs hp ha h
theorem s98_70 {S : Nat × (Nat → Int32)} {L : List (Option Value)} {st : List Value} {n : Nat} {Q : xQ} {μ : xM} {x y : Int} (h : x_V S 98 71 L (.int (I (x * y)) :: st) μ n Q) : x_V S 98 70 L (.int (I y) :: .int (I x) :: st) μ n Q := v_imul d98_70 h
theorem s98_71 {S : Nat × (Nat → Int32)} {L : List (Option Value)} {st : List Value} {n : Nat} {Q : xQ} {μ : xM}  (h : x_V S 98 72 L (.int (I 3) :: st) μ n Q) : x_V S 98 71 L (st) μ n Q := x_iconst (by decide +kernel) d98_71 h
theorem s98_72 {S : Nat × (Nat → Int32)} {L : List (Option Value)} {st : List Value} {n : Nat} {Q : xQ} {μ : xM} {x y : Int} (h : x_V S 98 73 L (.int (I (x + y)) :: st) μ n Q) : x_V S 98 72 L (.int (I y) :: .int (I x) :: st) μ n Q := v_iadd d98_72 h
theorem s98_73 {S : Nat × (Nat → Int32)} {L : List (Option Value)} {st : List Value} {n : Nat} {Q : xQ} {μ : xM} {x : Int32} (hl : L[5]? = some (some (.int x))) (h : x_V S 98 75 L (.int x :: st) μ n Q) : x_V S 98 73 L (st) μ n Q := x_iload d98_73 hl h
theorem s98_76 {S : Nat × (Nat → Int32)} {L : List (Option Value)} {st : List Value} {n : Nat} {Q : xQ} {μ : xM} {a : Nat} (hl : L[0]? = some (some (.ref a))) (h : x_V S 98 77 L (.ref a :: st) μ n Q) : x_V S 98 76 L (st) μ n Q := x_aload_n d98_76 hl h
theorem s98_76N {S : Nat × (Nat → Int32)} {L : List (Option Value)} {st : List Value} {n : Nat} {Q : xQ} {μ : xM} (hl : L[0]? = some (some .null)) (h : x_V S 98 77 L (.null :: st) μ n Q) : x_V S 98 76 L st μ n Q := x_aload_nN d98_76 hl h
theorem s98_77 {S : Nat × (Nat → Int32)} {L : List (Option Value)} {st : List Value} {n : Nat} {Q : xQ} {g : Nat → Nat → Int} {a : Nat} (hs : x_sh a = (9, 39)) (hp : x_pt a 19 = none) (ha : a ≠ x_out) (h : x_V S 98 80 L (.int (I (g a 19)) :: st) (x_vm g) n Q) : x_V S 98 77 L (.ref a :: st) (x_vm g) n Q := v_get (i := 19) cf9 d98_77 (by decide) w714 hs hp ha h
theorem s98_80 {S : Nat × (Nat → Int32)} {L : List (Option Value)} {st : List Value} {n : Nat} {Q : xQ} {μ : xM} {x : Int} (hx : ib x) (kt : x = 0 → x_V S 98 99 L (st) μ n Q) (kf : x ≠ 0 → x_V S 98 83 L (st) μ n Q) : x_V S 98 80 L (.int (I x) :: st) μ n Q := v_if_eq d98_80 (by decide) hx kt kf
theorem s98_83 {S : Nat × (Nat → Int32)} {L : List (Option Value)} {st : List Value} {n : Nat} {Q : xQ} {μ : xM} {a : Nat} (hl : L[0]? = some (some (.ref a))) (h : x_V S 98 84 L (.ref a :: st) μ n Q) : x_V S 98 83 L (st) μ n Q := x_aload_n d98_83 hl h
theorem s98_83N {S : Nat × (Nat → Int32)} {L : List (Option Value)} {st : List Value} {n : Nat} {Q : xQ} {μ : xM} (hl : L[0]? = some (some .null)) (h : x_V S 98 84 L (.null :: st) μ n Q) : x_V S 98 83 L st μ n Q := x_aload_nN d98_83 hl h
theorem s98_84 {S : Nat × (Nat → Int32)} {L : List (Option Value)} {st : List Value} {n : Nat} {Q : xQ} {μ : xM} {x : Int32} (hl : L[1]? = some (some (.int x))) (h : x_V S 98 85 L (.int x :: st) μ n Q) : x_V S 98 84 L (st) μ n Q := x_iload_n d98_84 hl h
theorem s98_85 {S : Nat × (Nat → Int32)} {L : List (Option Value)} {st : List Value} {n : Nat} {Q : xQ} {μ : xM} {a : Nat} (hl : L[0]? = some (some (.ref a))) (h : x_V S 98 86 L (.ref a :: st) μ n Q) : x_V S 98 85 L (st) μ n Q := x_aload_n d98_85 hl h
theorem s98_85N {S : Nat × (Nat → Int32)} {L : List (Option Value)} {st : List Value} {n : Nat} {Q : xQ} {μ : xM} (hl : L[0]? = some (some .null)) (h : x_V S 98 86 L (.null :: st) μ n Q) : x_V S 98 85 L st μ n Q := x_aload_nN d98_85 hl h
theorem s98_86 {S : Nat × (Nat → Int32)} {L : List (Option Value)} {st : List Value} {n : Nat} {Q : xQ} {g : Nat → Nat → Int} {a : Nat} (hs : x_sh a = (9, 39)) (hp : x_pt a 21 = none) (ha : a ≠ x_out) (h : x_V S 98 89 L (.int (I (g a 21)) :: st) (x_vm g) n Q) : x_V S 98 86 L (.ref a :: st) (x_vm g) n Q := v_get (i := 21) cf9 d98_86 (by decide) w716 hs hp ha h
theorem s98_89 {S : Nat × (Nat → Int32)} {L : List (Option Value)} {st : List Value} {n : Nat} {Q : xQ} {μ : xM}  (h : x_V S 98 90 L (.int (I 0) :: st) μ n Q) : x_V S 98 89 L (st) μ n Q := x_iconst (by decide +kernel) d98_89 h
theorem s98_90 {S : Nat × (Nat → Int32)} {L : List (Option Value)} {st : List Value} {n : Nat} {Q : xQ} {μ : xM} {x : Int32} (hl : L[2]? = some (some (.int x))) (h : x_V S 98 91 L (.int x :: st) μ n Q) : x_V S 98 90 L (st) μ n Q := x_iload_n d98_90 hl h
theorem s98_91 {S : Nat × (Nat → Int32)} {L : List (Option Value)} {st : List Value} {n : Nat} {Q : xQ} {μ : xM} {x : Int32} (hl : L[3]? = some (some (.int x))) (h : x_V S 98 92 L (.int x :: st) μ n Q) : x_V S 98 91 L (st) μ n Q := x_iload_n d98_91 hl h
theorem s98_92 {S : Nat × (Nat → Int32)} {L : List (Option Value)} {st : List Value} {n : Nat} {Q : xQ} {μ : xM} {x : Int32} (hl : L[4]? = some (some (.int x))) (h : x_V S 98 94 L (.int x :: st) μ n Q) : x_V S 98 92 L (st) μ n Q := x_iload d98_92 hl h
theorem s98_94 {S : Nat × (Nat → Int32)} {L : List (Option Value)} {st : List Value} {n : Nat} {Q : xQ} {μ : xM} {x : Int32} (hl : L[5]? = some (some (.int x))) (h : x_V S 98 96 L (.int x :: st) μ n Q) : x_V S 98 94 L (st) μ n Q := x_iload d98_94 hl h
theorem s98_96 {S : Nat × (Nat → Int32)} {L : List (Option Value)} {st : List Value} {n : Nat} {Q : xQ} {μ : xM} {x0 : Int32} {x1 : Int32} {x2 : Int32} {x3 : Int32} {x4 : Int32} {x5 : Int32} {x6 : Int32} {a : Nat} (hs : x_sh a = (9, 39)) (hst : st.length ≤ 4) (h : x_V S 97 0 [some (.ref a), some (.int x0), some (.int x1), some (.int x2), some (.int x3), some (.int x4), some (.int x5), some (.int x6)] [] μ n (x_bk S 98 96 L st Q)) : x_V S 98 96 L (.int x6 :: .int x5 :: .int x4 :: .int x3 :: .int x2 :: .int x1 :: .int x0 :: .ref a :: st) μ n Q := x_callV (k' := 97) (as := [.int x0, .int x1, .int x2, .int x3, .int x4, .int x5, .int x6]) (na := 7) d98_96 ⟨w920, by decide +kernel, by decide, by decide, by decide, by decide, by decide⟩ cf9 w917 w919 wp40 (by decide +kernel) rfl hs (fun v hv => by
    simp only [List.mem_cons, List.not_mem_nil, or_false] at hv
    rcases hv with rfl | rfl | rfl | rfl | rfl | rfl | rfl <;> first | rfl | assumption) hst h
theorem s98_99 {S : Nat × (Nat → Int32)} {L : List (Option Value)} {st : List Value} {n : Nat} {Q : xQ} {μ : xM} {a : Nat} (hl : L[0]? = some (some (.ref a))) (h : x_V S 98 100 L (.ref a :: st) μ n Q) : x_V S 98 99 L (st) μ n Q := x_aload_n d98_99 hl h
theorem s98_99N {S : Nat × (Nat → Int32)} {L : List (Option Value)} {st : List Value} {n : Nat} {Q : xQ} {μ : xM} (hl : L[0]? = some (some .null)) (h : x_V S 98 100 L (.null :: st) μ n Q) : x_V S 98 99 L st μ n Q := x_aload_nN d98_99 hl h
theorem s98_100 {S : Nat × (Nat → Int32)} {L : List (Option Value)} {st : List Value} {n : Nat} {Q : xQ} {μ : xM} {v : Value} (hc : v.category = 1) (h : x_V S 98 101 L (v :: v :: st) μ n Q) : x_V S 98 100 L (v :: st) μ n Q := x_dup hc d98_100 h
theorem s98_101 {S : Nat × (Nat → Int32)} {L : List (Option Value)} {st : List Value} {n : Nat} {Q : xQ} {g : Nat → Nat → Int} {a : Nat} (hs : x_sh a = (9, 39)) (hp : x_pt a 21 = none) (ha : a ≠ x_out) (h : x_V S 98 104 L (.int (I (g a 21)) :: st) (x_vm g) n Q) : x_V S 98 101 L (.ref a :: st) (x_vm g) n Q := v_get (i := 21) cf9 d98_101 (by decide) w716 hs hp ha h
theorem s98_104 {S : Nat × (Nat → Int32)} {L : List (Option Value)} {st : List Value} {n : Nat} {Q : xQ} {μ : xM}  (h : x_V S 98 105 L (.int (I 1) :: st) μ n Q) : x_V S 98 104 L (st) μ n Q := x_iconst (by decide +kernel) d98_104 h
theorem s98_105 {S : Nat × (Nat → Int32)} {L : List (Option Value)} {st : List Value} {n : Nat} {Q : xQ} {μ : xM} {x y : Int} (h : x_V S 98 106 L (.int (I (x + y)) :: st) μ n Q) : x_V S 98 105 L (.int (I y) :: .int (I x) :: st) μ n Q := v_iadd d98_105 h
theorem s98_106 {S : Nat × (Nat → Int32)} {L : List (Option Value)} {st : List Value} {n : Nat} {Q : xQ} {g : Nat → Nat → Int} {a : Nat} {x : Int} (hs : x_sh a = (9, 39)) (hp : x_pt a 21 = none) (ha : a ≠ x_out) (h : x_V S 98 109 L (st) (x_vm (x_uf g a 21 x)) n Q) : x_V S 98 106 L (.int (I x) :: .ref a :: st) (x_vm g) n Q := v_put (i := 21) cf9 d98_106 (by decide) rfl w716 hs rfl hp ha h
theorem s98_109 {S : Nat × (Nat → Int32)} {L : List (Option Value)} {st : List Value} {n : Nat} {Q : xQ} {μ : xM}  (h : Q (.inl none) μ n) : x_V S 98 109 L ([]) μ n Q := x_return d98_109 rfl h
theorem mC_99 : mC 99 = prog_12_method_17_code := rfl
theorem d99_0 : decode (mC 99) 0 = .ok (.aload_n 0, 1) := by rw [mC_99]; decide +kernel
theorem d99_1 : decode (mC 99) 1 = .ok (.getfield 118, 3) := by rw [mC_99]; decide +kernel
theorem d99_4 : decode (mC 99) 4 = .ok (.ifCond .eq 13, 3) := by rw [mC_99]; decide +kernel
theorem d99_7 : decode (mC 99) 7 = .ok (.aload_n 0, 1) := by rw [mC_99]; decide +kernel
theorem d99_8 : decode (mC 99) 8 = .ok (.bipush 53, 2) := by rw [mC_99]; decide +kernel
theorem d99_10 : decode (mC 99) 10 = .ok (.iconst 0, 1) := by rw [mC_99]; decide +kernel
theorem d99_11 : decode (mC 99) 11 = .ok (.iconst 0, 1) := by rw [mC_99]; decide +kernel
theorem d99_12 : decode (mC 99) 12 = .ok (.iconst 0, 1) := by rw [mC_99]; decide +kernel
theorem d99_13 : decode (mC 99) 13 = .ok (.iconst 0, 1) := by rw [mC_99]; decide +kernel
theorem d99_14 : decode (mC 99) 14 = .ok (.invokevirtual 124, 3) := by rw [mC_99]; decide +kernel
theorem d99_17 : decode (mC 99) 17 = .ok (.aload_n 0, 1) := by rw [mC_99]; decide +kernel
theorem d99_18 : decode (mC 99) 18 = .ok (.iconst 0, 1) := by rw [mC_99]; decide +kernel
theorem d99_19 : decode (mC 99) 19 = .ok (.putfield 118, 3) := by rw [mC_99]; decide +kernel
theorem d99_22 : decode (mC 99) 22 = .ok (.aload_n 0, 1) := by rw [mC_99]; decide +kernel
theorem d99_23 : decode (mC 99) 23 = .ok (.iconst 0, 1) := by rw [mC_99]; decide +kernel
theorem d99_24 : decode (mC 99) 24 = .ok (.putfield 128, 3) := by rw [mC_99]; decide +kernel
theorem d99_27 : decode (mC 99) 27 = .ok (.return_, 1) := by rw [mC_99]; decide +kernel
theorem s99_0 {S : Nat × (Nat → Int32)} {L : List (Option Value)} {st : List Value} {n : Nat} {Q : xQ} {μ : xM} {a : Nat} (hl : L[0]? = some (some (.ref a))) (h : x_V S 99 1 L (.ref a :: st) μ n Q) : x_V S 99 0 L (st) μ n Q := x_aload_n d99_0 hl h
theorem s99_0N {S : Nat × (Nat → Int32)} {L : List (Option Value)} {st : List Value} {n : Nat} {Q : xQ} {μ : xM} (hl : L[0]? = some (some .null)) (h : x_V S 99 1 L (.null :: st) μ n Q) : x_V S 99 0 L st μ n Q := x_aload_nN d99_0 hl h
theorem s99_1 {S : Nat × (Nat → Int32)} {L : List (Option Value)} {st : List Value} {n : Nat} {Q : xQ} {g : Nat → Nat → Int} {a : Nat} (hs : x_sh a = (9, 39)) (hp : x_pt a 19 = none) (ha : a ≠ x_out) (h : x_V S 99 4 L (.int (I (g a 19)) :: st) (x_vm g) n Q) : x_V S 99 1 L (.ref a :: st) (x_vm g) n Q := v_get (i := 19) cf9 d99_1 (by decide) w714 hs hp ha h
theorem s99_4 {S : Nat × (Nat → Int32)} {L : List (Option Value)} {st : List Value} {n : Nat} {Q : xQ} {μ : xM} {x : Int} (hx : ib x) (kt : x = 0 → x_V S 99 17 L (st) μ n Q) (kf : x ≠ 0 → x_V S 99 7 L (st) μ n Q) : x_V S 99 4 L (.int (I x) :: st) μ n Q := v_if_eq d99_4 (by decide) hx kt kf
theorem s99_7 {S : Nat × (Nat → Int32)} {L : List (Option Value)} {st : List Value} {n : Nat} {Q : xQ} {μ : xM} {a : Nat} (hl : L[0]? = some (some (.ref a))) (h : x_V S 99 8 L (.ref a :: st) μ n Q) : x_V S 99 7 L (st) μ n Q := x_aload_n d99_7 hl h
theorem s99_7N {S : Nat × (Nat → Int32)} {L : List (Option Value)} {st : List Value} {n : Nat} {Q : xQ} {μ : xM} (hl : L[0]? = some (some .null)) (h : x_V S 99 8 L (.null :: st) μ n Q) : x_V S 99 7 L st μ n Q := x_aload_nN d99_7 hl h
theorem s99_8 {S : Nat × (Nat → Int32)} {L : List (Option Value)} {st : List Value} {n : Nat} {Q : xQ} {μ : xM}  (h : x_V S 99 10 L (.int (I 53) :: st) μ n Q) : x_V S 99 8 L (st) μ n Q := x_bipush (by decide +kernel) d99_8 h
theorem s99_10 {S : Nat × (Nat → Int32)} {L : List (Option Value)} {st : List Value} {n : Nat} {Q : xQ} {μ : xM}  (h : x_V S 99 11 L (.int (I 0) :: st) μ n Q) : x_V S 99 10 L (st) μ n Q := x_iconst (by decide +kernel) d99_10 h
theorem s99_11 {S : Nat × (Nat → Int32)} {L : List (Option Value)} {st : List Value} {n : Nat} {Q : xQ} {μ : xM}  (h : x_V S 99 12 L (.int (I 0) :: st) μ n Q) : x_V S 99 11 L (st) μ n Q := x_iconst (by decide +kernel) d99_11 h
theorem s99_12 {S : Nat × (Nat → Int32)} {L : List (Option Value)} {st : List Value} {n : Nat} {Q : xQ} {μ : xM}  (h : x_V S 99 13 L (.int (I 0) :: st) μ n Q) : x_V S 99 12 L (st) μ n Q := x_iconst (by decide +kernel) d99_12 h
theorem s99_13 {S : Nat × (Nat → Int32)} {L : List (Option Value)} {st : List Value} {n : Nat} {Q : xQ} {μ : xM}  (h : x_V S 99 14 L (.int (I 0) :: st) μ n Q) : x_V S 99 13 L (st) μ n Q := x_iconst (by decide +kernel) d99_13 h
theorem s99_14 {S : Nat × (Nat → Int32)} {L : List (Option Value)} {st : List Value} {n : Nat} {Q : xQ} {μ : xM} {x0 : Int32} {x1 : Int32} {x2 : Int32} {x3 : Int32} {x4 : Int32} {a : Nat} (hs : x_sh a = (9, 39)) (hst : st.length ≤ 4) (h : x_V S 98 0 [some (.ref a), some (.int x0), some (.int x1), some (.int x2), some (.int x3), some (.int x4)] [] μ n (x_bk S 99 14 L st Q)) : x_V S 99 14 L (.int x4 :: .int x3 :: .int x2 :: .int x1 :: .int x0 :: .ref a :: st) μ n Q := x_callV (k' := 98) (as := [.int x0, .int x1, .int x2, .int x3, .int x4]) (na := 5) d99_14 ⟨w916, by decide +kernel, by decide, by decide, by decide, by decide, by decide⟩ cf9 w913 w915 wp39 (by decide +kernel) rfl hs (fun v hv => by
    simp only [List.mem_cons, List.not_mem_nil, or_false] at hv
    rcases hv with rfl | rfl | rfl | rfl | rfl <;> first | rfl | assumption) hst h
theorem s99_17 {S : Nat × (Nat → Int32)} {L : List (Option Value)} {st : List Value} {n : Nat} {Q : xQ} {μ : xM} {a : Nat} (hl : L[0]? = some (some (.ref a))) (h : x_V S 99 18 L (.ref a :: st) μ n Q) : x_V S 99 17 L (st) μ n Q := x_aload_n d99_17 hl h
theorem s99_17N {S : Nat × (Nat → Int32)} {L : List (Option Value)} {st : List Value} {n : Nat} {Q : xQ} {μ : xM} (hl : L[0]? = some (some .null)) (h : x_V S 99 18 L (.null :: st) μ n Q) : x_V S 99 17 L st μ n Q := x_aload_nN d99_17 hl h
theorem s99_18 {S : Nat × (Nat → Int32)} {L : List (Option Value)} {st : List Value} {n : Nat} {Q : xQ} {μ : xM}  (h : x_V S 99 19 L (.int (I 0) :: st) μ n Q) : x_V S 99 18 L (st) μ n Q := x_iconst (by decide +kernel) d99_18 h
theorem s99_19 {S : Nat × (Nat → Int32)} {L : List (Option Value)} {st : List Value} {n : Nat} {Q : xQ} {g : Nat → Nat → Int} {a : Nat} {x : Int} (hs : x_sh a = (9, 39)) (hx : x = 0 ∨ x = 1) (hp : x_pt a 19 = none) (ha : a ≠ x_out) (h : x_V S 99 22 L (st) (x_vm (x_uf g a 19 x)) n Q) : x_V S 99 19 L (.int (I x) :: .ref a :: st) (x_vm g) n Q := v_putz (i := 19) cf9 d99_19 (by decide) rfl w714 hs rfl hx hp ha h
theorem s99_22 {S : Nat × (Nat → Int32)} {L : List (Option Value)} {st : List Value} {n : Nat} {Q : xQ} {μ : xM} {a : Nat} (hl : L[0]? = some (some (.ref a))) (h : x_V S 99 23 L (.ref a :: st) μ n Q) : x_V S 99 22 L (st) μ n Q := x_aload_n d99_22 hl h
theorem s99_22N {S : Nat × (Nat → Int32)} {L : List (Option Value)} {st : List Value} {n : Nat} {Q : xQ} {μ : xM} (hl : L[0]? = some (some .null)) (h : x_V S 99 23 L (.null :: st) μ n Q) : x_V S 99 22 L st μ n Q := x_aload_nN d99_22 hl h
theorem s99_23 {S : Nat × (Nat → Int32)} {L : List (Option Value)} {st : List Value} {n : Nat} {Q : xQ} {μ : xM}  (h : x_V S 99 24 L (.int (I 0) :: st) μ n Q) : x_V S 99 23 L (st) μ n Q := x_iconst (by decide +kernel) d99_23 h
theorem s99_24 {S : Nat × (Nat → Int32)} {L : List (Option Value)} {st : List Value} {n : Nat} {Q : xQ} {g : Nat → Nat → Int} {a : Nat} {x : Int} (hs : x_sh a = (9, 39)) (hp : x_pt a 26 = none) (ha : a ≠ x_out) (h : x_V S 99 27 L (st) (x_vm (x_uf g a 26 x)) n Q) : x_V S 99 24 L (.int (I x) :: .ref a :: st) (x_vm g) n Q := v_put (i := 26) cf9 d99_24 (by decide) rfl w721 hs rfl hp ha h
theorem s99_27 {S : Nat × (Nat → Int32)} {L : List (Option Value)} {st : List Value} {n : Nat} {Q : xQ} {μ : xM}  (h : Q (.inl none) μ n) : x_V S 99 27 L ([]) μ n Q := x_return d99_27 rfl h
theorem mC_100 : mC 100 = prog_12_method_18_code := rfl
theorem d100_0 : decode (mC 100) 0 = .ok (.aload_n 0, 1) := by rw [mC_100]; decide +kernel
theorem d100_1 : decode (mC 100) 1 = .ok (.bipush 50, 2) := by rw [mC_100]; decide +kernel
theorem d100_3 : decode (mC 100) 3 = .ok (.aload_n 0, 1) := by rw [mC_100]; decide +kernel
theorem d100_4 : decode (mC 100) 4 = .ok (.getfield 28, 3) := by rw [mC_100]; decide +kernel
theorem d100_7 : decode (mC 100) 7 = .ok (.iconst 0, 1) := by rw [mC_100]; decide +kernel
theorem d100_8 : decode (mC 100) 8 = .ok (.iconst 0, 1) := by rw [mC_100]; decide +kernel
theorem d100_9 : decode (mC 100) 9 = .ok (.iconst 0, 1) := by rw [mC_100]; decide +kernel
theorem d100_10 : decode (mC 100) 10 = .ok (.invokevirtual 124, 3) := by rw [mC_100]; decide +kernel
theorem d100_13 : decode (mC 100) 13 = .ok (.aload_n 0, 1) := by rw [mC_100]; decide +kernel
theorem d100_14 : decode (mC 100) 14 = .ok (.aload_n 0, 1) := by rw [mC_100]; decide +kernel
theorem d100_15 : decode (mC 100) 15 = .ok (.getfield 112, 3) := by rw [mC_100]; decide +kernel
theorem d100_18 : decode (mC 100) 18 = .ok (.putfield 131, 3) := by rw [mC_100]; decide +kernel
theorem d100_21 : decode (mC 100) 21 = .ok (.return_, 1) := by rw [mC_100]; decide +kernel
theorem s100_0 {S : Nat × (Nat → Int32)} {L : List (Option Value)} {st : List Value} {n : Nat} {Q : xQ} {μ : xM} {a : Nat} (hl : L[0]? = some (some (.ref a))) (h : x_V S 100 1 L (.ref a :: st) μ n Q) : x_V S 100 0 L (st) μ n Q := x_aload_n d100_0 hl h
theorem s100_0N {S : Nat × (Nat → Int32)} {L : List (Option Value)} {st : List Value} {n : Nat} {Q : xQ} {μ : xM} (hl : L[0]? = some (some .null)) (h : x_V S 100 1 L (.null :: st) μ n Q) : x_V S 100 0 L st μ n Q := x_aload_nN d100_0 hl h
theorem s100_1 {S : Nat × (Nat → Int32)} {L : List (Option Value)} {st : List Value} {n : Nat} {Q : xQ} {μ : xM}  (h : x_V S 100 3 L (.int (I 50) :: st) μ n Q) : x_V S 100 1 L (st) μ n Q := x_bipush (by decide +kernel) d100_1 h
theorem s100_3 {S : Nat × (Nat → Int32)} {L : List (Option Value)} {st : List Value} {n : Nat} {Q : xQ} {μ : xM} {a : Nat} (hl : L[0]? = some (some (.ref a))) (h : x_V S 100 4 L (.ref a :: st) μ n Q) : x_V S 100 3 L (st) μ n Q := x_aload_n d100_3 hl h
theorem s100_3N {S : Nat × (Nat → Int32)} {L : List (Option Value)} {st : List Value} {n : Nat} {Q : xQ} {μ : xM} (hl : L[0]? = some (some .null)) (h : x_V S 100 4 L (.null :: st) μ n Q) : x_V S 100 3 L st μ n Q := x_aload_nN d100_3 hl h
theorem s100_4 {S : Nat × (Nat → Int32)} {L : List (Option Value)} {st : List Value} {n : Nat} {Q : xQ} {g : Nat → Nat → Int} {a : Nat} (hs : x_sh a = (9, 39)) (hp : x_pt a 20 = none) (ha : a ≠ x_out) (h : x_V S 100 7 L (.int (I (g a 20)) :: st) (x_vm g) n Q) : x_V S 100 4 L (.ref a :: st) (x_vm g) n Q := v_get (i := 20) cf9 d100_4 (by decide) w715 hs hp ha h
theorem s100_7 {S : Nat × (Nat → Int32)} {L : List (Option Value)} {st : List Value} {n : Nat} {Q : xQ} {μ : xM}  (h : x_V S 100 8 L (.int (I 0) :: st) μ n Q) : x_V S 100 7 L (st) μ n Q := x_iconst (by decide +kernel) d100_7 h
theorem s100_8 {S : Nat × (Nat → Int32)} {L : List (Option Value)} {st : List Value} {n : Nat} {Q : xQ} {μ : xM}  (h : x_V S 100 9 L (.int (I 0) :: st) μ n Q) : x_V S 100 8 L (st) μ n Q := x_iconst (by decide +kernel) d100_8 h
theorem s100_9 {S : Nat × (Nat → Int32)} {L : List (Option Value)} {st : List Value} {n : Nat} {Q : xQ} {μ : xM}  (h : x_V S 100 10 L (.int (I 0) :: st) μ n Q) : x_V S 100 9 L (st) μ n Q := x_iconst (by decide +kernel) d100_9 h
theorem s100_10 {S : Nat × (Nat → Int32)} {L : List (Option Value)} {st : List Value} {n : Nat} {Q : xQ} {μ : xM} {x0 : Int32} {x1 : Int32} {x2 : Int32} {x3 : Int32} {x4 : Int32} {a : Nat} (hs : x_sh a = (9, 39)) (hst : st.length ≤ 4) (h : x_V S 98 0 [some (.ref a), some (.int x0), some (.int x1), some (.int x2), some (.int x3), some (.int x4)] [] μ n (x_bk S 100 10 L st Q)) : x_V S 100 10 L (.int x4 :: .int x3 :: .int x2 :: .int x1 :: .int x0 :: .ref a :: st) μ n Q := x_callV (k' := 98) (as := [.int x0, .int x1, .int x2, .int x3, .int x4]) (na := 5) d100_10 ⟨w916, by decide +kernel, by decide, by decide, by decide, by decide, by decide⟩ cf9 w913 w915 wp39 (by decide +kernel) rfl hs (fun v hv => by
    simp only [List.mem_cons, List.not_mem_nil, or_false] at hv
    rcases hv with rfl | rfl | rfl | rfl | rfl <;> first | rfl | assumption) hst h
theorem s100_13 {S : Nat × (Nat → Int32)} {L : List (Option Value)} {st : List Value} {n : Nat} {Q : xQ} {μ : xM} {a : Nat} (hl : L[0]? = some (some (.ref a))) (h : x_V S 100 14 L (.ref a :: st) μ n Q) : x_V S 100 13 L (st) μ n Q := x_aload_n d100_13 hl h
theorem s100_13N {S : Nat × (Nat → Int32)} {L : List (Option Value)} {st : List Value} {n : Nat} {Q : xQ} {μ : xM} (hl : L[0]? = some (some .null)) (h : x_V S 100 14 L (.null :: st) μ n Q) : x_V S 100 13 L st μ n Q := x_aload_nN d100_13 hl h
theorem s100_14 {S : Nat × (Nat → Int32)} {L : List (Option Value)} {st : List Value} {n : Nat} {Q : xQ} {μ : xM} {a : Nat} (hl : L[0]? = some (some (.ref a))) (h : x_V S 100 15 L (.ref a :: st) μ n Q) : x_V S 100 14 L (st) μ n Q := x_aload_n d100_14 hl h
theorem s100_14N {S : Nat × (Nat → Int32)} {L : List (Option Value)} {st : List Value} {n : Nat} {Q : xQ} {μ : xM} (hl : L[0]? = some (some .null)) (h : x_V S 100 15 L (.null :: st) μ n Q) : x_V S 100 14 L st μ n Q := x_aload_nN d100_14 hl h
theorem s100_15 {S : Nat × (Nat → Int32)} {L : List (Option Value)} {st : List Value} {n : Nat} {Q : xQ} {g : Nat → Nat → Int} {a : Nat} (hs : x_sh a = (9, 39)) (hp : x_pt a 22 = none) (ha : a ≠ x_out) (h : x_V S 100 18 L (.int (I (g a 22)) :: st) (x_vm g) n Q) : x_V S 100 15 L (.ref a :: st) (x_vm g) n Q := v_get (i := 22) cf9 d100_15 (by decide) w717 hs hp ha h
theorem s100_18 {S : Nat × (Nat → Int32)} {L : List (Option Value)} {st : List Value} {n : Nat} {Q : xQ} {g : Nat → Nat → Int} {a : Nat} {x : Int} (hs : x_sh a = (9, 39)) (hp : x_pt a 25 = none) (ha : a ≠ x_out) (h : x_V S 100 21 L (st) (x_vm (x_uf g a 25 x)) n Q) : x_V S 100 18 L (.int (I x) :: .ref a :: st) (x_vm g) n Q := v_put (i := 25) cf9 d100_18 (by decide) rfl w720 hs rfl hp ha h
theorem s100_21 {S : Nat × (Nat → Int32)} {L : List (Option Value)} {st : List Value} {n : Nat} {Q : xQ} {μ : xM}  (h : Q (.inl none) μ n) : x_V S 100 21 L ([]) μ n Q := x_return d100_21 rfl h
theorem mC_101 : mC 101 = prog_12_method_19_code := rfl
theorem d101_0 : decode (mC 101) 0 = .ok (.iload_n 2, 1) := by rw [mC_101]; decide +kernel
theorem d101_1 : decode (mC 101) 1 = .ok (.ifCond .eq 13, 3) := by rw [mC_101]; decide +kernel
theorem d101_4 : decode (mC 101) 4 = .ok (.iload_n 2, 1) := by rw [mC_101]; decide +kernel
theorem d101_5 : decode (mC 101) 5 = .ok (.aload_n 0, 1) := by rw [mC_101]; decide +kernel
theorem d101_6 : decode (mC 101) 6 = .ok (.getfield 32, 3) := by rw [mC_101]; decide +kernel
theorem d101_9 : decode (mC 101) 9 = .ok (.iconst 1, 1) := by rw [mC_101]; decide +kernel
theorem d101_10 : decode (mC 101) 10 = .ok (.isub, 1) := by rw [mC_101]; decide +kernel
theorem d101_11 : decode (mC 101) 11 = .ok (.if_icmp .le 12, 3) := by rw [mC_101]; decide +kernel
theorem d101_14 : decode (mC 101) 14 = .ok (.aload_n 0, 1) := by rw [mC_101]; decide +kernel
theorem d101_15 : decode (mC 101) 15 = .ok (.getfield 32, 3) := by rw [mC_101]; decide +kernel
theorem d101_18 : decode (mC 101) 18 = .ok (.iconst 1, 1) := by rw [mC_101]; decide +kernel
theorem d101_19 : decode (mC 101) 19 = .ok (.isub, 1) := by rw [mC_101]; decide +kernel
theorem d101_20 : decode (mC 101) 20 = .ok (.goto 4, 3) := by rw [mC_101]; decide +kernel
theorem d101_23 : decode (mC 101) 23 = .ok (.iload_n 2, 1) := by rw [mC_101]; decide +kernel
theorem d101_24 : decode (mC 101) 24 = .ok (.istore_n 3, 1) := by rw [mC_101]; decide +kernel
theorem d101_25 : decode (mC 101) 25 = .ok (.iload_n 1, 1) := by rw [mC_101]; decide +kernel
theorem d101_26 : decode (mC 101) 26 = .ok (.iconst 1, 1) := by rw [mC_101]; decide +kernel
theorem d101_27 : decode (mC 101) 27 = .ok (.if_icmp .ge 7, 3) := by rw [mC_101]; decide +kernel
theorem d101_30 : decode (mC 101) 30 = .ok (.iconst 1, 1) := by rw [mC_101]; decide +kernel
theorem d101_31 : decode (mC 101) 31 = .ok (.goto 4, 3) := by rw [mC_101]; decide +kernel
theorem d101_34 : decode (mC 101) 34 = .ok (.iload_n 1, 1) := by rw [mC_101]; decide +kernel
theorem d101_35 : decode (mC 101) 35 = .ok (.istore 4, 2) := by rw [mC_101]; decide +kernel
theorem d101_37 : decode (mC 101) 37 = .ok (.iload 4, 2) := by rw [mC_101]; decide +kernel
theorem d101_39 : decode (mC 101) 39 = .ok (.iload_n 3, 1) := by rw [mC_101]; decide +kernel
theorem d101_40 : decode (mC 101) 40 = .ok (.if_icmp .gt 118, 3) := by rw [mC_101]; decide +kernel
theorem d101_43 : decode (mC 101) 43 = .ok (.aload_n 0, 1) := by rw [mC_101]; decide +kernel
theorem d101_44 : decode (mC 101) 44 = .ok (.getfield 35, 3) := by rw [mC_101]; decide +kernel
theorem d101_47 : decode (mC 101) 47 = .ok (.iload 4, 2) := by rw [mC_101]; decide +kernel
theorem d101_49 : decode (mC 101) 49 = .ok (.baload, 1) := by rw [mC_101]; decide +kernel
theorem d101_50 : decode (mC 101) 50 = .ok (.ifCond .eq 60, 3) := by rw [mC_101]; decide +kernel
theorem d101_53 : decode (mC 101) 53 = .ok (.aload_n 0, 1) := by rw [mC_101]; decide +kernel
theorem d101_54 : decode (mC 101) 54 = .ok (.bipush 56, 2) := by rw [mC_101]; decide +kernel
theorem d101_56 : decode (mC 101) 56 = .ok (.iload 4, 2) := by rw [mC_101]; decide +kernel
theorem d101_58 : decode (mC 101) 58 = .ok (.iconst 1, 1) := by rw [mC_101]; decide +kernel
theorem d101_59 : decode (mC 101) 59 = .ok (.aload_n 0, 1) := by rw [mC_101]; decide +kernel
theorem d101_60 : decode (mC 101) 60 = .ok (.getfield 39, 3) := by rw [mC_101]; decide +kernel
theorem d101_63 : decode (mC 101) 63 = .ok (.iconst 4, 1) := by rw [mC_101]; decide +kernel
theorem d101_64 : decode (mC 101) 64 = .ok (.iload 4, 2) := by rw [mC_101]; decide +kernel
theorem d101_66 : decode (mC 101) 66 = .ok (.imul, 1) := by rw [mC_101]; decide +kernel
theorem d101_67 : decode (mC 101) 67 = .ok (.iaload, 1) := by rw [mC_101]; decide +kernel
theorem d101_68 : decode (mC 101) 68 = .ok (.aload_n 0, 1) := by rw [mC_101]; decide +kernel
theorem d101_69 : decode (mC 101) 69 = .ok (.getfield 39, 3) := by rw [mC_101]; decide +kernel
theorem d101_72 : decode (mC 101) 72 = .ok (.iconst 4, 1) := by rw [mC_101]; decide +kernel
theorem d101_73 : decode (mC 101) 73 = .ok (.iload 4, 2) := by rw [mC_101]; decide +kernel
theorem d101_75 : decode (mC 101) 75 = .ok (.imul, 1) := by rw [mC_101]; decide +kernel
theorem d101_76 : decode (mC 101) 76 = .ok (.iconst 1, 1) := by rw [mC_101]; decide +kernel
theorem d101_77 : decode (mC 101) 77 = .ok (.iadd, 1) := by rw [mC_101]; decide +kernel
theorem d101_78 : decode (mC 101) 78 = .ok (.iaload, 1) := by rw [mC_101]; decide +kernel
theorem d101_79 : decode (mC 101) 79 = .ok (.aload_n 0, 1) := by rw [mC_101]; decide +kernel
theorem d101_80 : decode (mC 101) 80 = .ok (.getfield 39, 3) := by rw [mC_101]; decide +kernel
theorem d101_83 : decode (mC 101) 83 = .ok (.iconst 4, 1) := by rw [mC_101]; decide +kernel
theorem d101_84 : decode (mC 101) 84 = .ok (.iload 4, 2) := by rw [mC_101]; decide +kernel
theorem d101_86 : decode (mC 101) 86 = .ok (.imul, 1) := by rw [mC_101]; decide +kernel
theorem d101_87 : decode (mC 101) 87 = .ok (.iconst 2, 1) := by rw [mC_101]; decide +kernel
theorem d101_88 : decode (mC 101) 88 = .ok (.iadd, 1) := by rw [mC_101]; decide +kernel
theorem d101_89 : decode (mC 101) 89 = .ok (.iaload, 1) := by rw [mC_101]; decide +kernel
theorem d101_90 : decode (mC 101) 90 = .ok (.aload_n 0, 1) := by rw [mC_101]; decide +kernel
theorem d101_91 : decode (mC 101) 91 = .ok (.getfield 39, 3) := by rw [mC_101]; decide +kernel
theorem d101_94 : decode (mC 101) 94 = .ok (.iconst 4, 1) := by rw [mC_101]; decide +kernel
theorem d101_95 : decode (mC 101) 95 = .ok (.iload 4, 2) := by rw [mC_101]; decide +kernel
theorem d101_97 : decode (mC 101) 97 = .ok (.imul, 1) := by rw [mC_101]; decide +kernel
theorem d101_98 : decode (mC 101) 98 = .ok (.iconst 3, 1) := by rw [mC_101]; decide +kernel
theorem d101_99 : decode (mC 101) 99 = .ok (.iadd, 1) := by rw [mC_101]; decide +kernel
theorem d101_100 : decode (mC 101) 100 = .ok (.iaload, 1) := by rw [mC_101]; decide +kernel
theorem d101_101 : decode (mC 101) 101 = .ok (.invokevirtual 121, 3) := by rw [mC_101]; decide +kernel
theorem d101_104 : decode (mC 101) 104 = .ok (.iinc 4 1, 3) := by rw [mC_101]; decide +kernel
theorem d101_107 : decode (mC 101) 107 = .ok (.goto (-70), 3) := by rw [mC_101]; decide +kernel
theorem d101_110 : decode (mC 101) 110 = .ok (.iload 4, 2) := by rw [mC_101]; decide +kernel
theorem d101_112 : decode (mC 101) 112 = .ok (.istore 5, 2) := by rw [mC_101]; decide +kernel
theorem d101_114 : decode (mC 101) 114 = .ok (.iload 5, 2) := by rw [mC_101]; decide +kernel
theorem d101_116 : decode (mC 101) 116 = .ok (.iload_n 3, 1) := by rw [mC_101]; decide +kernel
theorem d101_117 : decode (mC 101) 117 = .ok (.if_icmp .gt 19, 3) := by rw [mC_101]; decide +kernel
theorem d101_120 : decode (mC 101) 120 = .ok (.aload_n 0, 1) := by rw [mC_101]; decide +kernel
theorem d101_121 : decode (mC 101) 121 = .ok (.getfield 35, 3) := by rw [mC_101]; decide +kernel
theorem d101_124 : decode (mC 101) 124 = .ok (.iload 5, 2) := by rw [mC_101]; decide +kernel
theorem d101_126 : decode (mC 101) 126 = .ok (.baload, 1) := by rw [mC_101]; decide +kernel
theorem d101_127 : decode (mC 101) 127 = .ok (.ifCond .ne 9, 3) := by rw [mC_101]; decide +kernel
theorem d101_130 : decode (mC 101) 130 = .ok (.iinc 5 1, 3) := by rw [mC_101]; decide +kernel
theorem d101_133 : decode (mC 101) 133 = .ok (.goto (-19), 3) := by rw [mC_101]; decide +kernel
theorem d101_136 : decode (mC 101) 136 = .ok (.aload_n 0, 1) := by rw [mC_101]; decide +kernel
theorem d101_137 : decode (mC 101) 137 = .ok (.bipush 52, 2) := by rw [mC_101]; decide +kernel
theorem d101_139 : decode (mC 101) 139 = .ok (.iload 4, 2) := by rw [mC_101]; decide +kernel
theorem d101_141 : decode (mC 101) 141 = .ok (.iconst 1, 1) := by rw [mC_101]; decide +kernel
theorem d101_142 : decode (mC 101) 142 = .ok (.iload 5, 2) := by rw [mC_101]; decide +kernel
theorem d101_144 : decode (mC 101) 144 = .ok (.bipush 89, 2) := by rw [mC_101]; decide +kernel
theorem d101_146 : decode (mC 101) 146 = .ok (.iconst 0, 1) := by rw [mC_101]; decide +kernel
theorem d101_147 : decode (mC 101) 147 = .ok (.iconst 0, 1) := by rw [mC_101]; decide +kernel
theorem d101_148 : decode (mC 101) 148 = .ok (.invokevirtual 121, 3) := by rw [mC_101]; decide +kernel
theorem d101_151 : decode (mC 101) 151 = .ok (.iload 5, 2) := by rw [mC_101]; decide +kernel
theorem d101_153 : decode (mC 101) 153 = .ok (.istore 4, 2) := by rw [mC_101]; decide +kernel
theorem d101_155 : decode (mC 101) 155 = .ok (.goto (-118), 3) := by rw [mC_101]; decide +kernel
theorem d101_158 : decode (mC 101) 158 = .ok (.return_, 1) := by rw [mC_101]; decide +kernel
theorem s101_0 {S : Nat × (Nat → Int32)} {L : List (Option Value)} {st : List Value} {n : Nat} {Q : xQ} {μ : xM} {x : Int32} (hl : L[2]? = some (some (.int x))) (h : x_V S 101 1 L (.int x :: st) μ n Q) : x_V S 101 0 L (st) μ n Q := x_iload_n d101_0 hl h
theorem s101_1 {S : Nat × (Nat → Int32)} {L : List (Option Value)} {st : List Value} {n : Nat} {Q : xQ} {μ : xM} {x : Int} (hx : ib x) (kt : x = 0 → x_V S 101 14 L (st) μ n Q) (kf : x ≠ 0 → x_V S 101 4 L (st) μ n Q) : x_V S 101 1 L (.int (I x) :: st) μ n Q := v_if_eq d101_1 (by decide) hx kt kf
theorem s101_4 {S : Nat × (Nat → Int32)} {L : List (Option Value)} {st : List Value} {n : Nat} {Q : xQ} {μ : xM} {x : Int32} (hl : L[2]? = some (some (.int x))) (h : x_V S 101 5 L (.int x :: st) μ n Q) : x_V S 101 4 L (st) μ n Q := x_iload_n d101_4 hl h
theorem s101_5 {S : Nat × (Nat → Int32)} {L : List (Option Value)} {st : List Value} {n : Nat} {Q : xQ} {μ : xM} {a : Nat} (hl : L[0]? = some (some (.ref a))) (h : x_V S 101 6 L (.ref a :: st) μ n Q) : x_V S 101 5 L (st) μ n Q := x_aload_n d101_5 hl h
theorem s101_5N {S : Nat × (Nat → Int32)} {L : List (Option Value)} {st : List Value} {n : Nat} {Q : xQ} {μ : xM} (hl : L[0]? = some (some .null)) (h : x_V S 101 6 L (.null :: st) μ n Q) : x_V S 101 5 L st μ n Q := x_aload_nN d101_5 hl h
theorem s101_6 {S : Nat × (Nat → Int32)} {L : List (Option Value)} {st : List Value} {n : Nat} {Q : xQ} {g : Nat → Nat → Int} {a : Nat} (hs : x_sh a = (9, 39)) (hp : x_pt a 21 = none) (ha : a ≠ x_out) (h : x_V S 101 9 L (.int (I (g a 21)) :: st) (x_vm g) n Q) : x_V S 101 6 L (.ref a :: st) (x_vm g) n Q := v_get (i := 21) cf9 d101_6 (by decide) w716 hs hp ha h
theorem s101_9 {S : Nat × (Nat → Int32)} {L : List (Option Value)} {st : List Value} {n : Nat} {Q : xQ} {μ : xM}  (h : x_V S 101 10 L (.int (I 1) :: st) μ n Q) : x_V S 101 9 L (st) μ n Q := x_iconst (by decide +kernel) d101_9 h
theorem s101_10 {S : Nat × (Nat → Int32)} {L : List (Option Value)} {st : List Value} {n : Nat} {Q : xQ} {μ : xM} {x y : Int} (h : x_V S 101 11 L (.int (I (x - y)) :: st) μ n Q) : x_V S 101 10 L (.int (I y) :: .int (I x) :: st) μ n Q := v_isub d101_10 h
theorem s101_11 {S : Nat × (Nat → Int32)} {L : List (Option Value)} {st : List Value} {n : Nat} {Q : xQ} {μ : xM} {x y : Int} (hx : ib x) (hy : ib y) (kt : x ≤ y → x_V S 101 23 L (st) μ n Q) (kf : y < x → x_V S 101 14 L (st) μ n Q) : x_V S 101 11 L (.int (I y) :: .int (I x) :: st) μ n Q := v_icmp_le d101_11 (by decide) hx hy kt kf
theorem s101_14 {S : Nat × (Nat → Int32)} {L : List (Option Value)} {st : List Value} {n : Nat} {Q : xQ} {μ : xM} {a : Nat} (hl : L[0]? = some (some (.ref a))) (h : x_V S 101 15 L (.ref a :: st) μ n Q) : x_V S 101 14 L (st) μ n Q := x_aload_n d101_14 hl h
theorem s101_14N {S : Nat × (Nat → Int32)} {L : List (Option Value)} {st : List Value} {n : Nat} {Q : xQ} {μ : xM} (hl : L[0]? = some (some .null)) (h : x_V S 101 15 L (.null :: st) μ n Q) : x_V S 101 14 L st μ n Q := x_aload_nN d101_14 hl h
theorem s101_15 {S : Nat × (Nat → Int32)} {L : List (Option Value)} {st : List Value} {n : Nat} {Q : xQ} {g : Nat → Nat → Int} {a : Nat} (hs : x_sh a = (9, 39)) (hp : x_pt a 21 = none) (ha : a ≠ x_out) (h : x_V S 101 18 L (.int (I (g a 21)) :: st) (x_vm g) n Q) : x_V S 101 15 L (.ref a :: st) (x_vm g) n Q := v_get (i := 21) cf9 d101_15 (by decide) w716 hs hp ha h
theorem s101_18 {S : Nat × (Nat → Int32)} {L : List (Option Value)} {st : List Value} {n : Nat} {Q : xQ} {μ : xM}  (h : x_V S 101 19 L (.int (I 1) :: st) μ n Q) : x_V S 101 18 L (st) μ n Q := x_iconst (by decide +kernel) d101_18 h
theorem s101_19 {S : Nat × (Nat → Int32)} {L : List (Option Value)} {st : List Value} {n : Nat} {Q : xQ} {μ : xM} {x y : Int} (h : x_V S 101 20 L (.int (I (x - y)) :: st) μ n Q) : x_V S 101 19 L (.int (I y) :: .int (I x) :: st) μ n Q := v_isub d101_19 h
theorem s101_20 {S : Nat × (Nat → Int32)} {L : List (Option Value)} {st : List Value} {n : Nat} {Q : xQ} {μ : xM}  (h : x_V S 101 24 L (st) μ n Q) : x_V S 101 20 L (st) μ n Q := x_goto (tgt := 24) (by decide) d101_20 h
theorem s101_23 {S : Nat × (Nat → Int32)} {L : List (Option Value)} {st : List Value} {n : Nat} {Q : xQ} {μ : xM} {x : Int32} (hl : L[2]? = some (some (.int x))) (h : x_V S 101 24 L (.int x :: st) μ n Q) : x_V S 101 23 L (st) μ n Q := x_iload_n d101_23 hl h
theorem s101_24 {S : Nat × (Nat → Int32)} {L : List (Option Value)} {st : List Value} {n : Nat} {Q : xQ} {μ : xM} {x : Int32} (h : x_V S 101 25 (L.set 3 (some (.int x))) (st) μ n Q) : x_V S 101 24 L (.int x :: st) μ n Q := x_istore_n d101_24 (by decide) h
theorem s101_25 {S : Nat × (Nat → Int32)} {L : List (Option Value)} {st : List Value} {n : Nat} {Q : xQ} {μ : xM} {x : Int32} (hl : L[1]? = some (some (.int x))) (h : x_V S 101 26 L (.int x :: st) μ n Q) : x_V S 101 25 L (st) μ n Q := x_iload_n d101_25 hl h
theorem s101_26 {S : Nat × (Nat → Int32)} {L : List (Option Value)} {st : List Value} {n : Nat} {Q : xQ} {μ : xM}  (h : x_V S 101 27 L (.int (I 1) :: st) μ n Q) : x_V S 101 26 L (st) μ n Q := x_iconst (by decide +kernel) d101_26 h
theorem s101_27 {S : Nat × (Nat → Int32)} {L : List (Option Value)} {st : List Value} {n : Nat} {Q : xQ} {μ : xM} {x y : Int} (hx : ib x) (hy : ib y) (kt : y ≤ x → x_V S 101 34 L (st) μ n Q) (kf : x < y → x_V S 101 30 L (st) μ n Q) : x_V S 101 27 L (.int (I y) :: .int (I x) :: st) μ n Q := v_icmp_ge d101_27 (by decide) hx hy kt kf
theorem s101_30 {S : Nat × (Nat → Int32)} {L : List (Option Value)} {st : List Value} {n : Nat} {Q : xQ} {μ : xM}  (h : x_V S 101 31 L (.int (I 1) :: st) μ n Q) : x_V S 101 30 L (st) μ n Q := x_iconst (by decide +kernel) d101_30 h
theorem s101_31 {S : Nat × (Nat → Int32)} {L : List (Option Value)} {st : List Value} {n : Nat} {Q : xQ} {μ : xM}  (h : x_V S 101 35 L (st) μ n Q) : x_V S 101 31 L (st) μ n Q := x_goto (tgt := 35) (by decide) d101_31 h
theorem s101_34 {S : Nat × (Nat → Int32)} {L : List (Option Value)} {st : List Value} {n : Nat} {Q : xQ} {μ : xM} {x : Int32} (hl : L[1]? = some (some (.int x))) (h : x_V S 101 35 L (.int x :: st) μ n Q) : x_V S 101 34 L (st) μ n Q := x_iload_n d101_34 hl h
theorem s101_35 {S : Nat × (Nat → Int32)} {L : List (Option Value)} {st : List Value} {n : Nat} {Q : xQ} {μ : xM} {x : Int32} (h : x_V S 101 37 (L.set 4 (some (.int x))) (st) μ n Q) : x_V S 101 35 L (.int x :: st) μ n Q := x_istore d101_35 (by decide) h
theorem s101_37 {S : Nat × (Nat → Int32)} {L : List (Option Value)} {st : List Value} {n : Nat} {Q : xQ} {μ : xM} {x : Int32} (hl : L[4]? = some (some (.int x))) (h : x_V S 101 39 L (.int x :: st) μ n Q) : x_V S 101 37 L (st) μ n Q := x_iload d101_37 hl h
theorem s101_39 {S : Nat × (Nat → Int32)} {L : List (Option Value)} {st : List Value} {n : Nat} {Q : xQ} {μ : xM} {x : Int32} (hl : L[3]? = some (some (.int x))) (h : x_V S 101 40 L (.int x :: st) μ n Q) : x_V S 101 39 L (st) μ n Q := x_iload_n d101_39 hl h
theorem s101_40 {S : Nat × (Nat → Int32)} {L : List (Option Value)} {st : List Value} {n : Nat} {Q : xQ} {μ : xM} {x y : Int} (hx : ib x) (hy : ib y) (kt : y < x → x_V S 101 158 L (st) μ n Q) (kf : x ≤ y → x_V S 101 43 L (st) μ n Q) : x_V S 101 40 L (.int (I y) :: .int (I x) :: st) μ n Q := v_icmp_gt d101_40 (by decide) hx hy kt kf
theorem s101_43 {S : Nat × (Nat → Int32)} {L : List (Option Value)} {st : List Value} {n : Nat} {Q : xQ} {μ : xM} {a : Nat} (hl : L[0]? = some (some (.ref a))) (h : x_V S 101 44 L (.ref a :: st) μ n Q) : x_V S 101 43 L (st) μ n Q := x_aload_n d101_43 hl h
theorem s101_43N {S : Nat × (Nat → Int32)} {L : List (Option Value)} {st : List Value} {n : Nat} {Q : xQ} {μ : xM} (hl : L[0]? = some (some .null)) (h : x_V S 101 44 L (.null :: st) μ n Q) : x_V S 101 43 L st μ n Q := x_aload_nN d101_43 hl h
theorem s101_44 {S : Nat × (Nat → Int32)} {L : List (Option Value)} {st : List Value} {n : Nat} {Q : xQ} {g : Nat → Nat → Int} {a : Nat} {v : Value} (hs : x_sh a = (9, 39)) (hp : x_pt a 27 = some v) (h : x_V S 101 47 L (v :: st) (x_vm g) n Q) : x_V S 101 44 L (.ref a :: st) (x_vm g) n Q := v_getp (i := 27) cf9 d101_44 (by decide) w722 hs hp h
theorem s101_47 {S : Nat × (Nat → Int32)} {L : List (Option Value)} {st : List Value} {n : Nat} {Q : xQ} {μ : xM} {x : Int32} (hl : L[4]? = some (some (.int x))) (h : x_V S 101 49 L (.int x :: st) μ n Q) : x_V S 101 47 L (st) μ n Q := x_iload d101_47 hl h
theorem s101_50 {S : Nat × (Nat → Int32)} {L : List (Option Value)} {st : List Value} {n : Nat} {Q : xQ} {μ : xM} {x : Int} (hx : ib x) (kt : x = 0 → x_V S 101 110 L (st) μ n Q) (kf : x ≠ 0 → x_V S 101 53 L (st) μ n Q) : x_V S 101 50 L (.int (I x) :: st) μ n Q := v_if_eq d101_50 (by decide) hx kt kf
theorem s101_53 {S : Nat × (Nat → Int32)} {L : List (Option Value)} {st : List Value} {n : Nat} {Q : xQ} {μ : xM} {a : Nat} (hl : L[0]? = some (some (.ref a))) (h : x_V S 101 54 L (.ref a :: st) μ n Q) : x_V S 101 53 L (st) μ n Q := x_aload_n d101_53 hl h
theorem s101_53N {S : Nat × (Nat → Int32)} {L : List (Option Value)} {st : List Value} {n : Nat} {Q : xQ} {μ : xM} (hl : L[0]? = some (some .null)) (h : x_V S 101 54 L (.null :: st) μ n Q) : x_V S 101 53 L st μ n Q := x_aload_nN d101_53 hl h
theorem s101_54 {S : Nat × (Nat → Int32)} {L : List (Option Value)} {st : List Value} {n : Nat} {Q : xQ} {μ : xM}  (h : x_V S 101 56 L (.int (I 56) :: st) μ n Q) : x_V S 101 54 L (st) μ n Q := x_bipush (by decide +kernel) d101_54 h
theorem s101_56 {S : Nat × (Nat → Int32)} {L : List (Option Value)} {st : List Value} {n : Nat} {Q : xQ} {μ : xM} {x : Int32} (hl : L[4]? = some (some (.int x))) (h : x_V S 101 58 L (.int x :: st) μ n Q) : x_V S 101 56 L (st) μ n Q := x_iload d101_56 hl h
theorem s101_58 {S : Nat × (Nat → Int32)} {L : List (Option Value)} {st : List Value} {n : Nat} {Q : xQ} {μ : xM}  (h : x_V S 101 59 L (.int (I 1) :: st) μ n Q) : x_V S 101 58 L (st) μ n Q := x_iconst (by decide +kernel) d101_58 h
theorem s101_59 {S : Nat × (Nat → Int32)} {L : List (Option Value)} {st : List Value} {n : Nat} {Q : xQ} {μ : xM} {a : Nat} (hl : L[0]? = some (some (.ref a))) (h : x_V S 101 60 L (.ref a :: st) μ n Q) : x_V S 101 59 L (st) μ n Q := x_aload_n d101_59 hl h
theorem s101_59N {S : Nat × (Nat → Int32)} {L : List (Option Value)} {st : List Value} {n : Nat} {Q : xQ} {μ : xM} (hl : L[0]? = some (some .null)) (h : x_V S 101 60 L (.null :: st) μ n Q) : x_V S 101 59 L st μ n Q := x_aload_nN d101_59 hl h
theorem s101_60 {S : Nat × (Nat → Int32)} {L : List (Option Value)} {st : List Value} {n : Nat} {Q : xQ} {g : Nat → Nat → Int} {a : Nat} {v : Value} (hs : x_sh a = (9, 39)) (hp : x_pt a 28 = some v) (h : x_V S 101 63 L (v :: st) (x_vm g) n Q) : x_V S 101 60 L (.ref a :: st) (x_vm g) n Q := v_getp (i := 28) cf9 d101_60 (by decide) w723 hs hp h
theorem s101_63 {S : Nat × (Nat → Int32)} {L : List (Option Value)} {st : List Value} {n : Nat} {Q : xQ} {μ : xM}  (h : x_V S 101 64 L (.int (I 4) :: st) μ n Q) : x_V S 101 63 L (st) μ n Q := x_iconst (by decide +kernel) d101_63 h
theorem s101_64 {S : Nat × (Nat → Int32)} {L : List (Option Value)} {st : List Value} {n : Nat} {Q : xQ} {μ : xM} {x : Int32} (hl : L[4]? = some (some (.int x))) (h : x_V S 101 66 L (.int x :: st) μ n Q) : x_V S 101 64 L (st) μ n Q := x_iload d101_64 hl h
theorem s101_66 {S : Nat × (Nat → Int32)} {L : List (Option Value)} {st : List Value} {n : Nat} {Q : xQ} {μ : xM} {x y : Int} (h : x_V S 101 67 L (.int (I (x * y)) :: st) μ n Q) : x_V S 101 66 L (.int (I y) :: .int (I x) :: st) μ n Q := v_imul d101_66 h
theorem s101_68 {S : Nat × (Nat → Int32)} {L : List (Option Value)} {st : List Value} {n : Nat} {Q : xQ} {μ : xM} {a : Nat} (hl : L[0]? = some (some (.ref a))) (h : x_V S 101 69 L (.ref a :: st) μ n Q) : x_V S 101 68 L (st) μ n Q := x_aload_n d101_68 hl h
theorem s101_68N {S : Nat × (Nat → Int32)} {L : List (Option Value)} {st : List Value} {n : Nat} {Q : xQ} {μ : xM} (hl : L[0]? = some (some .null)) (h : x_V S 101 69 L (.null :: st) μ n Q) : x_V S 101 68 L st μ n Q := x_aload_nN d101_68 hl h
theorem s101_69 {S : Nat × (Nat → Int32)} {L : List (Option Value)} {st : List Value} {n : Nat} {Q : xQ} {g : Nat → Nat → Int} {a : Nat} {v : Value} (hs : x_sh a = (9, 39)) (hp : x_pt a 28 = some v) (h : x_V S 101 72 L (v :: st) (x_vm g) n Q) : x_V S 101 69 L (.ref a :: st) (x_vm g) n Q := v_getp (i := 28) cf9 d101_69 (by decide) w723 hs hp h
theorem s101_72 {S : Nat × (Nat → Int32)} {L : List (Option Value)} {st : List Value} {n : Nat} {Q : xQ} {μ : xM}  (h : x_V S 101 73 L (.int (I 4) :: st) μ n Q) : x_V S 101 72 L (st) μ n Q := x_iconst (by decide +kernel) d101_72 h
theorem s101_73 {S : Nat × (Nat → Int32)} {L : List (Option Value)} {st : List Value} {n : Nat} {Q : xQ} {μ : xM} {x : Int32} (hl : L[4]? = some (some (.int x))) (h : x_V S 101 75 L (.int x :: st) μ n Q) : x_V S 101 73 L (st) μ n Q := x_iload d101_73 hl h
theorem s101_75 {S : Nat × (Nat → Int32)} {L : List (Option Value)} {st : List Value} {n : Nat} {Q : xQ} {μ : xM} {x y : Int} (h : x_V S 101 76 L (.int (I (x * y)) :: st) μ n Q) : x_V S 101 75 L (.int (I y) :: .int (I x) :: st) μ n Q := v_imul d101_75 h
theorem s101_76 {S : Nat × (Nat → Int32)} {L : List (Option Value)} {st : List Value} {n : Nat} {Q : xQ} {μ : xM}  (h : x_V S 101 77 L (.int (I 1) :: st) μ n Q) : x_V S 101 76 L (st) μ n Q := x_iconst (by decide +kernel) d101_76 h
theorem s101_77 {S : Nat × (Nat → Int32)} {L : List (Option Value)} {st : List Value} {n : Nat} {Q : xQ} {μ : xM} {x y : Int} (h : x_V S 101 78 L (.int (I (x + y)) :: st) μ n Q) : x_V S 101 77 L (.int (I y) :: .int (I x) :: st) μ n Q := v_iadd d101_77 h
theorem s101_79 {S : Nat × (Nat → Int32)} {L : List (Option Value)} {st : List Value} {n : Nat} {Q : xQ} {μ : xM} {a : Nat} (hl : L[0]? = some (some (.ref a))) (h : x_V S 101 80 L (.ref a :: st) μ n Q) : x_V S 101 79 L (st) μ n Q := x_aload_n d101_79 hl h
theorem s101_79N {S : Nat × (Nat → Int32)} {L : List (Option Value)} {st : List Value} {n : Nat} {Q : xQ} {μ : xM} (hl : L[0]? = some (some .null)) (h : x_V S 101 80 L (.null :: st) μ n Q) : x_V S 101 79 L st μ n Q := x_aload_nN d101_79 hl h
theorem s101_80 {S : Nat × (Nat → Int32)} {L : List (Option Value)} {st : List Value} {n : Nat} {Q : xQ} {g : Nat → Nat → Int} {a : Nat} {v : Value} (hs : x_sh a = (9, 39)) (hp : x_pt a 28 = some v) (h : x_V S 101 83 L (v :: st) (x_vm g) n Q) : x_V S 101 80 L (.ref a :: st) (x_vm g) n Q := v_getp (i := 28) cf9 d101_80 (by decide) w723 hs hp h
theorem s101_83 {S : Nat × (Nat → Int32)} {L : List (Option Value)} {st : List Value} {n : Nat} {Q : xQ} {μ : xM}  (h : x_V S 101 84 L (.int (I 4) :: st) μ n Q) : x_V S 101 83 L (st) μ n Q := x_iconst (by decide +kernel) d101_83 h
theorem s101_84 {S : Nat × (Nat → Int32)} {L : List (Option Value)} {st : List Value} {n : Nat} {Q : xQ} {μ : xM} {x : Int32} (hl : L[4]? = some (some (.int x))) (h : x_V S 101 86 L (.int x :: st) μ n Q) : x_V S 101 84 L (st) μ n Q := x_iload d101_84 hl h
theorem s101_86 {S : Nat × (Nat → Int32)} {L : List (Option Value)} {st : List Value} {n : Nat} {Q : xQ} {μ : xM} {x y : Int} (h : x_V S 101 87 L (.int (I (x * y)) :: st) μ n Q) : x_V S 101 86 L (.int (I y) :: .int (I x) :: st) μ n Q := v_imul d101_86 h
theorem s101_87 {S : Nat × (Nat → Int32)} {L : List (Option Value)} {st : List Value} {n : Nat} {Q : xQ} {μ : xM}  (h : x_V S 101 88 L (.int (I 2) :: st) μ n Q) : x_V S 101 87 L (st) μ n Q := x_iconst (by decide +kernel) d101_87 h
theorem s101_88 {S : Nat × (Nat → Int32)} {L : List (Option Value)} {st : List Value} {n : Nat} {Q : xQ} {μ : xM} {x y : Int} (h : x_V S 101 89 L (.int (I (x + y)) :: st) μ n Q) : x_V S 101 88 L (.int (I y) :: .int (I x) :: st) μ n Q := v_iadd d101_88 h
theorem s101_90 {S : Nat × (Nat → Int32)} {L : List (Option Value)} {st : List Value} {n : Nat} {Q : xQ} {μ : xM} {a : Nat} (hl : L[0]? = some (some (.ref a))) (h : x_V S 101 91 L (.ref a :: st) μ n Q) : x_V S 101 90 L (st) μ n Q := x_aload_n d101_90 hl h
theorem s101_90N {S : Nat × (Nat → Int32)} {L : List (Option Value)} {st : List Value} {n : Nat} {Q : xQ} {μ : xM} (hl : L[0]? = some (some .null)) (h : x_V S 101 91 L (.null :: st) μ n Q) : x_V S 101 90 L st μ n Q := x_aload_nN d101_90 hl h
theorem s101_91 {S : Nat × (Nat → Int32)} {L : List (Option Value)} {st : List Value} {n : Nat} {Q : xQ} {g : Nat → Nat → Int} {a : Nat} {v : Value} (hs : x_sh a = (9, 39)) (hp : x_pt a 28 = some v) (h : x_V S 101 94 L (v :: st) (x_vm g) n Q) : x_V S 101 91 L (.ref a :: st) (x_vm g) n Q := v_getp (i := 28) cf9 d101_91 (by decide) w723 hs hp h
theorem s101_94 {S : Nat × (Nat → Int32)} {L : List (Option Value)} {st : List Value} {n : Nat} {Q : xQ} {μ : xM}  (h : x_V S 101 95 L (.int (I 4) :: st) μ n Q) : x_V S 101 94 L (st) μ n Q := x_iconst (by decide +kernel) d101_94 h
theorem s101_95 {S : Nat × (Nat → Int32)} {L : List (Option Value)} {st : List Value} {n : Nat} {Q : xQ} {μ : xM} {x : Int32} (hl : L[4]? = some (some (.int x))) (h : x_V S 101 97 L (.int x :: st) μ n Q) : x_V S 101 95 L (st) μ n Q := x_iload d101_95 hl h
theorem s101_97 {S : Nat × (Nat → Int32)} {L : List (Option Value)} {st : List Value} {n : Nat} {Q : xQ} {μ : xM} {x y : Int} (h : x_V S 101 98 L (.int (I (x * y)) :: st) μ n Q) : x_V S 101 97 L (.int (I y) :: .int (I x) :: st) μ n Q := v_imul d101_97 h
theorem s101_98 {S : Nat × (Nat → Int32)} {L : List (Option Value)} {st : List Value} {n : Nat} {Q : xQ} {μ : xM}  (h : x_V S 101 99 L (.int (I 3) :: st) μ n Q) : x_V S 101 98 L (st) μ n Q := x_iconst (by decide +kernel) d101_98 h
theorem s101_99 {S : Nat × (Nat → Int32)} {L : List (Option Value)} {st : List Value} {n : Nat} {Q : xQ} {μ : xM} {x y : Int} (h : x_V S 101 100 L (.int (I (x + y)) :: st) μ n Q) : x_V S 101 99 L (.int (I y) :: .int (I x) :: st) μ n Q := v_iadd d101_99 h
theorem s101_101 {S : Nat × (Nat → Int32)} {L : List (Option Value)} {st : List Value} {n : Nat} {Q : xQ} {μ : xM} {x0 : Int32} {x1 : Int32} {x2 : Int32} {x3 : Int32} {x4 : Int32} {x5 : Int32} {x6 : Int32} {a : Nat} (hs : x_sh a = (9, 39)) (hst : st.length ≤ 4) (h : x_V S 97 0 [some (.ref a), some (.int x0), some (.int x1), some (.int x2), some (.int x3), some (.int x4), some (.int x5), some (.int x6)] [] μ n (x_bk S 101 101 L st Q)) : x_V S 101 101 L (.int x6 :: .int x5 :: .int x4 :: .int x3 :: .int x2 :: .int x1 :: .int x0 :: .ref a :: st) μ n Q := x_callV (k' := 97) (as := [.int x0, .int x1, .int x2, .int x3, .int x4, .int x5, .int x6]) (na := 7) d101_101 ⟨w920, by decide +kernel, by decide, by decide, by decide, by decide, by decide⟩ cf9 w917 w919 wp40 (by decide +kernel) rfl hs (fun v hv => by
    simp only [List.mem_cons, List.not_mem_nil, or_false] at hv
    rcases hv with rfl | rfl | rfl | rfl | rfl | rfl | rfl <;> first | rfl | assumption) hst h
theorem s101_104 {S : Nat × (Nat → Int32)} {L : List (Option Value)} {st : List Value} {n : Nat} {Q : xQ} {μ : xM} {x : Int} (hl : L[4]? = some (some (.int (I x)))) (h : x_V S 101 107 (L.set 4 (some (.int (I (x + 1))))) (st) μ n Q) : x_V S 101 104 L (st) μ n Q := v_iinc d101_104 hl (by decide) h
theorem s101_107 {S : Nat × (Nat → Int32)} {L : List (Option Value)} {st : List Value} {n : Nat} {Q : xQ} {μ : xM}  (h : x_V S 101 37 L (st) μ n Q) : x_V S 101 107 L (st) μ n Q := x_goto (tgt := 37) (by decide) d101_107 h
theorem s101_110 {S : Nat × (Nat → Int32)} {L : List (Option Value)} {st : List Value} {n : Nat} {Q : xQ} {μ : xM} {x : Int32} (hl : L[4]? = some (some (.int x))) (h : x_V S 101 112 L (.int x :: st) μ n Q) : x_V S 101 110 L (st) μ n Q := x_iload d101_110 hl h
theorem s101_112 {S : Nat × (Nat → Int32)} {L : List (Option Value)} {st : List Value} {n : Nat} {Q : xQ} {μ : xM} {x : Int32} (h : x_V S 101 114 (L.set 5 (some (.int x))) (st) μ n Q) : x_V S 101 112 L (.int x :: st) μ n Q := x_istore d101_112 (by decide) h
theorem s101_114 {S : Nat × (Nat → Int32)} {L : List (Option Value)} {st : List Value} {n : Nat} {Q : xQ} {μ : xM} {x : Int32} (hl : L[5]? = some (some (.int x))) (h : x_V S 101 116 L (.int x :: st) μ n Q) : x_V S 101 114 L (st) μ n Q := x_iload d101_114 hl h
theorem s101_116 {S : Nat × (Nat → Int32)} {L : List (Option Value)} {st : List Value} {n : Nat} {Q : xQ} {μ : xM} {x : Int32} (hl : L[3]? = some (some (.int x))) (h : x_V S 101 117 L (.int x :: st) μ n Q) : x_V S 101 116 L (st) μ n Q := x_iload_n d101_116 hl h
theorem s101_117 {S : Nat × (Nat → Int32)} {L : List (Option Value)} {st : List Value} {n : Nat} {Q : xQ} {μ : xM} {x y : Int} (hx : ib x) (hy : ib y) (kt : y < x → x_V S 101 136 L (st) μ n Q) (kf : x ≤ y → x_V S 101 120 L (st) μ n Q) : x_V S 101 117 L (.int (I y) :: .int (I x) :: st) μ n Q := v_icmp_gt d101_117 (by decide) hx hy kt kf
theorem s101_120 {S : Nat × (Nat → Int32)} {L : List (Option Value)} {st : List Value} {n : Nat} {Q : xQ} {μ : xM} {a : Nat} (hl : L[0]? = some (some (.ref a))) (h : x_V S 101 121 L (.ref a :: st) μ n Q) : x_V S 101 120 L (st) μ n Q := x_aload_n d101_120 hl h
theorem s101_120N {S : Nat × (Nat → Int32)} {L : List (Option Value)} {st : List Value} {n : Nat} {Q : xQ} {μ : xM} (hl : L[0]? = some (some .null)) (h : x_V S 101 121 L (.null :: st) μ n Q) : x_V S 101 120 L st μ n Q := x_aload_nN d101_120 hl h
theorem s101_121 {S : Nat × (Nat → Int32)} {L : List (Option Value)} {st : List Value} {n : Nat} {Q : xQ} {g : Nat → Nat → Int} {a : Nat} {v : Value} (hs : x_sh a = (9, 39)) (hp : x_pt a 27 = some v) (h : x_V S 101 124 L (v :: st) (x_vm g) n Q) : x_V S 101 121 L (.ref a :: st) (x_vm g) n Q := v_getp (i := 27) cf9 d101_121 (by decide) w722 hs hp h
theorem s101_124 {S : Nat × (Nat → Int32)} {L : List (Option Value)} {st : List Value} {n : Nat} {Q : xQ} {μ : xM} {x : Int32} (hl : L[5]? = some (some (.int x))) (h : x_V S 101 126 L (.int x :: st) μ n Q) : x_V S 101 124 L (st) μ n Q := x_iload d101_124 hl h
theorem s101_127 {S : Nat × (Nat → Int32)} {L : List (Option Value)} {st : List Value} {n : Nat} {Q : xQ} {μ : xM} {x : Int} (hx : ib x) (kt : x ≠ 0 → x_V S 101 136 L (st) μ n Q) (kf : x = 0 → x_V S 101 130 L (st) μ n Q) : x_V S 101 127 L (.int (I x) :: st) μ n Q := v_if_ne d101_127 (by decide) hx kt kf
theorem s101_130 {S : Nat × (Nat → Int32)} {L : List (Option Value)} {st : List Value} {n : Nat} {Q : xQ} {μ : xM} {x : Int} (hl : L[5]? = some (some (.int (I x)))) (h : x_V S 101 133 (L.set 5 (some (.int (I (x + 1))))) (st) μ n Q) : x_V S 101 130 L (st) μ n Q := v_iinc d101_130 hl (by decide) h
theorem s101_133 {S : Nat × (Nat → Int32)} {L : List (Option Value)} {st : List Value} {n : Nat} {Q : xQ} {μ : xM}  (h : x_V S 101 114 L (st) μ n Q) : x_V S 101 133 L (st) μ n Q := x_goto (tgt := 114) (by decide) d101_133 h
theorem s101_136 {S : Nat × (Nat → Int32)} {L : List (Option Value)} {st : List Value} {n : Nat} {Q : xQ} {μ : xM} {a : Nat} (hl : L[0]? = some (some (.ref a))) (h : x_V S 101 137 L (.ref a :: st) μ n Q) : x_V S 101 136 L (st) μ n Q := x_aload_n d101_136 hl h
theorem s101_136N {S : Nat × (Nat → Int32)} {L : List (Option Value)} {st : List Value} {n : Nat} {Q : xQ} {μ : xM} (hl : L[0]? = some (some .null)) (h : x_V S 101 137 L (.null :: st) μ n Q) : x_V S 101 136 L st μ n Q := x_aload_nN d101_136 hl h
theorem s101_137 {S : Nat × (Nat → Int32)} {L : List (Option Value)} {st : List Value} {n : Nat} {Q : xQ} {μ : xM}  (h : x_V S 101 139 L (.int (I 52) :: st) μ n Q) : x_V S 101 137 L (st) μ n Q := x_bipush (by decide +kernel) d101_137 h
theorem s101_139 {S : Nat × (Nat → Int32)} {L : List (Option Value)} {st : List Value} {n : Nat} {Q : xQ} {μ : xM} {x : Int32} (hl : L[4]? = some (some (.int x))) (h : x_V S 101 141 L (.int x :: st) μ n Q) : x_V S 101 139 L (st) μ n Q := x_iload d101_139 hl h
theorem s101_141 {S : Nat × (Nat → Int32)} {L : List (Option Value)} {st : List Value} {n : Nat} {Q : xQ} {μ : xM}  (h : x_V S 101 142 L (.int (I 1) :: st) μ n Q) : x_V S 101 141 L (st) μ n Q := x_iconst (by decide +kernel) d101_141 h
theorem s101_142 {S : Nat × (Nat → Int32)} {L : List (Option Value)} {st : List Value} {n : Nat} {Q : xQ} {μ : xM} {x : Int32} (hl : L[5]? = some (some (.int x))) (h : x_V S 101 144 L (.int x :: st) μ n Q) : x_V S 101 142 L (st) μ n Q := x_iload d101_142 hl h
theorem s101_144 {S : Nat × (Nat → Int32)} {L : List (Option Value)} {st : List Value} {n : Nat} {Q : xQ} {μ : xM}  (h : x_V S 101 146 L (.int (I 89) :: st) μ n Q) : x_V S 101 144 L (st) μ n Q := x_bipush (by decide +kernel) d101_144 h
theorem s101_146 {S : Nat × (Nat → Int32)} {L : List (Option Value)} {st : List Value} {n : Nat} {Q : xQ} {μ : xM}  (h : x_V S 101 147 L (.int (I 0) :: st) μ n Q) : x_V S 101 146 L (st) μ n Q := x_iconst (by decide +kernel) d101_146 h
theorem s101_147 {S : Nat × (Nat → Int32)} {L : List (Option Value)} {st : List Value} {n : Nat} {Q : xQ} {μ : xM}  (h : x_V S 101 148 L (.int (I 0) :: st) μ n Q) : x_V S 101 147 L (st) μ n Q := x_iconst (by decide +kernel) d101_147 h
theorem s101_148 {S : Nat × (Nat → Int32)} {L : List (Option Value)} {st : List Value} {n : Nat} {Q : xQ} {μ : xM} {x0 : Int32} {x1 : Int32} {x2 : Int32} {x3 : Int32} {x4 : Int32} {x5 : Int32} {x6 : Int32} {a : Nat} (hs : x_sh a = (9, 39)) (hst : st.length ≤ 4) (h : x_V S 97 0 [some (.ref a), some (.int x0), some (.int x1), some (.int x2), some (.int x3), some (.int x4), some (.int x5), some (.int x6)] [] μ n (x_bk S 101 148 L st Q)) : x_V S 101 148 L (.int x6 :: .int x5 :: .int x4 :: .int x3 :: .int x2 :: .int x1 :: .int x0 :: .ref a :: st) μ n Q := x_callV (k' := 97) (as := [.int x0, .int x1, .int x2, .int x3, .int x4, .int x5, .int x6]) (na := 7) d101_148 ⟨w920, by decide +kernel, by decide, by decide, by decide, by decide, by decide⟩ cf9 w917 w919 wp40 (by decide +kernel) rfl hs (fun v hv => by
    simp only [List.mem_cons, List.not_mem_nil, or_false] at hv
    rcases hv with rfl | rfl | rfl | rfl | rfl | rfl | rfl <;> first | rfl | assumption) hst h
theorem s101_151 {S : Nat × (Nat → Int32)} {L : List (Option Value)} {st : List Value} {n : Nat} {Q : xQ} {μ : xM} {x : Int32} (hl : L[5]? = some (some (.int x))) (h : x_V S 101 153 L (.int x :: st) μ n Q) : x_V S 101 151 L (st) μ n Q := x_iload d101_151 hl h
theorem s101_153 {S : Nat × (Nat → Int32)} {L : List (Option Value)} {st : List Value} {n : Nat} {Q : xQ} {μ : xM} {x : Int32} (h : x_V S 101 155 (L.set 4 (some (.int x))) (st) μ n Q) : x_V S 101 153 L (.int x :: st) μ n Q := x_istore d101_153 (by decide) h
theorem s101_155 {S : Nat × (Nat → Int32)} {L : List (Option Value)} {st : List Value} {n : Nat} {Q : xQ} {μ : xM}  (h : x_V S 101 37 L (st) μ n Q) : x_V S 101 155 L (st) μ n Q := x_goto (tgt := 37) (by decide) d101_155 h
theorem s101_158 {S : Nat × (Nat → Int32)} {L : List (Option Value)} {st : List Value} {n : Nat} {Q : xQ} {μ : xM}  (h : Q (.inl none) μ n) : x_V S 101 158 L ([]) μ n Q := x_return d101_158 rfl h
theorem mC_102 : mC 102 = prog_12_method_20_code := rfl
theorem d102_0 : decode (mC 102) 0 = .ok (.iload_n 0, 1) := by rw [mC_102]; decide +kernel
theorem d102_1 : decode (mC 102) 1 = .ok (.bipush 48, 2) := by rw [mC_102]; decide +kernel
theorem d102_3 : decode (mC 102) 3 = .ok (.if_icmp .eq 51, 3) := by rw [mC_102]; decide +kernel
theorem d102_6 : decode (mC 102) 6 = .ok (.iload_n 0, 1) := by rw [mC_102]; decide +kernel
theorem d102_7 : decode (mC 102) 7 = .ok (.bipush 49, 2) := by rw [mC_102]; decide +kernel
theorem d102_9 : decode (mC 102) 9 = .ok (.if_icmp .eq 45, 3) := by rw [mC_102]; decide +kernel
theorem d102_12 : decode (mC 102) 12 = .ok (.iload_n 0, 1) := by rw [mC_102]; decide +kernel
theorem d102_13 : decode (mC 102) 13 = .ok (.bipush 50, 2) := by rw [mC_102]; decide +kernel
theorem d102_15 : decode (mC 102) 15 = .ok (.if_icmp .eq 39, 3) := by rw [mC_102]; decide +kernel
theorem d102_18 : decode (mC 102) 18 = .ok (.iload_n 0, 1) := by rw [mC_102]; decide +kernel
theorem d102_19 : decode (mC 102) 19 = .ok (.bipush 52, 2) := by rw [mC_102]; decide +kernel
theorem d102_21 : decode (mC 102) 21 = .ok (.if_icmp .eq 33, 3) := by rw [mC_102]; decide +kernel
theorem d102_24 : decode (mC 102) 24 = .ok (.iload_n 0, 1) := by rw [mC_102]; decide +kernel
theorem d102_25 : decode (mC 102) 25 = .ok (.bipush 53, 2) := by rw [mC_102]; decide +kernel
theorem d102_27 : decode (mC 102) 27 = .ok (.if_icmp .eq 27, 3) := by rw [mC_102]; decide +kernel
theorem d102_30 : decode (mC 102) 30 = .ok (.iload_n 0, 1) := by rw [mC_102]; decide +kernel
theorem d102_31 : decode (mC 102) 31 = .ok (.bipush 65, 2) := by rw [mC_102]; decide +kernel
theorem d102_33 : decode (mC 102) 33 = .ok (.if_icmp .eq 21, 3) := by rw [mC_102]; decide +kernel
theorem d102_36 : decode (mC 102) 36 = .ok (.iload_n 0, 1) := by rw [mC_102]; decide +kernel
theorem d102_37 : decode (mC 102) 37 = .ok (.bipush 68, 2) := by rw [mC_102]; decide +kernel
theorem d102_39 : decode (mC 102) 39 = .ok (.if_icmp .eq 15, 3) := by rw [mC_102]; decide +kernel
theorem d102_42 : decode (mC 102) 42 = .ok (.iload_n 0, 1) := by rw [mC_102]; decide +kernel
theorem d102_43 : decode (mC 102) 43 = .ok (.bipush 70, 2) := by rw [mC_102]; decide +kernel
theorem d102_45 : decode (mC 102) 45 = .ok (.if_icmp .eq 9, 3) := by rw [mC_102]; decide +kernel
theorem d102_48 : decode (mC 102) 48 = .ok (.iload_n 0, 1) := by rw [mC_102]; decide +kernel
theorem d102_49 : decode (mC 102) 49 = .ok (.bipush 71, 2) := by rw [mC_102]; decide +kernel
theorem d102_51 : decode (mC 102) 51 = .ok (.if_icmp .ne 7, 3) := by rw [mC_102]; decide +kernel
theorem d102_54 : decode (mC 102) 54 = .ok (.iconst 1, 1) := by rw [mC_102]; decide +kernel
theorem d102_55 : decode (mC 102) 55 = .ok (.goto 4, 3) := by rw [mC_102]; decide +kernel
theorem d102_58 : decode (mC 102) 58 = .ok (.iconst 0, 1) := by rw [mC_102]; decide +kernel
theorem d102_59 : decode (mC 102) 59 = .ok (.ireturn, 1) := by rw [mC_102]; decide +kernel
theorem s102_0 {S : Nat × (Nat → Int32)} {L : List (Option Value)} {st : List Value} {n : Nat} {Q : xQ} {μ : xM} {x : Int32} (hl : L[0]? = some (some (.int x))) (h : x_V S 102 1 L (.int x :: st) μ n Q) : x_V S 102 0 L (st) μ n Q := x_iload_n d102_0 hl h
theorem s102_1 {S : Nat × (Nat → Int32)} {L : List (Option Value)} {st : List Value} {n : Nat} {Q : xQ} {μ : xM}  (h : x_V S 102 3 L (.int (I 48) :: st) μ n Q) : x_V S 102 1 L (st) μ n Q := x_bipush (by decide +kernel) d102_1 h
theorem s102_3 {S : Nat × (Nat → Int32)} {L : List (Option Value)} {st : List Value} {n : Nat} {Q : xQ} {μ : xM} {x y : Int} (hx : ib x) (hy : ib y) (kt : x = y → x_V S 102 54 L (st) μ n Q) (kf : x ≠ y → x_V S 102 6 L (st) μ n Q) : x_V S 102 3 L (.int (I y) :: .int (I x) :: st) μ n Q := v_icmp_eq d102_3 (by decide) hx hy kt kf
theorem s102_6 {S : Nat × (Nat → Int32)} {L : List (Option Value)} {st : List Value} {n : Nat} {Q : xQ} {μ : xM} {x : Int32} (hl : L[0]? = some (some (.int x))) (h : x_V S 102 7 L (.int x :: st) μ n Q) : x_V S 102 6 L (st) μ n Q := x_iload_n d102_6 hl h
theorem s102_7 {S : Nat × (Nat → Int32)} {L : List (Option Value)} {st : List Value} {n : Nat} {Q : xQ} {μ : xM}  (h : x_V S 102 9 L (.int (I 49) :: st) μ n Q) : x_V S 102 7 L (st) μ n Q := x_bipush (by decide +kernel) d102_7 h
theorem s102_9 {S : Nat × (Nat → Int32)} {L : List (Option Value)} {st : List Value} {n : Nat} {Q : xQ} {μ : xM} {x y : Int} (hx : ib x) (hy : ib y) (kt : x = y → x_V S 102 54 L (st) μ n Q) (kf : x ≠ y → x_V S 102 12 L (st) μ n Q) : x_V S 102 9 L (.int (I y) :: .int (I x) :: st) μ n Q := v_icmp_eq d102_9 (by decide) hx hy kt kf
theorem s102_12 {S : Nat × (Nat → Int32)} {L : List (Option Value)} {st : List Value} {n : Nat} {Q : xQ} {μ : xM} {x : Int32} (hl : L[0]? = some (some (.int x))) (h : x_V S 102 13 L (.int x :: st) μ n Q) : x_V S 102 12 L (st) μ n Q := x_iload_n d102_12 hl h
theorem s102_13 {S : Nat × (Nat → Int32)} {L : List (Option Value)} {st : List Value} {n : Nat} {Q : xQ} {μ : xM}  (h : x_V S 102 15 L (.int (I 50) :: st) μ n Q) : x_V S 102 13 L (st) μ n Q := x_bipush (by decide +kernel) d102_13 h
theorem s102_15 {S : Nat × (Nat → Int32)} {L : List (Option Value)} {st : List Value} {n : Nat} {Q : xQ} {μ : xM} {x y : Int} (hx : ib x) (hy : ib y) (kt : x = y → x_V S 102 54 L (st) μ n Q) (kf : x ≠ y → x_V S 102 18 L (st) μ n Q) : x_V S 102 15 L (.int (I y) :: .int (I x) :: st) μ n Q := v_icmp_eq d102_15 (by decide) hx hy kt kf
theorem s102_18 {S : Nat × (Nat → Int32)} {L : List (Option Value)} {st : List Value} {n : Nat} {Q : xQ} {μ : xM} {x : Int32} (hl : L[0]? = some (some (.int x))) (h : x_V S 102 19 L (.int x :: st) μ n Q) : x_V S 102 18 L (st) μ n Q := x_iload_n d102_18 hl h
theorem s102_19 {S : Nat × (Nat → Int32)} {L : List (Option Value)} {st : List Value} {n : Nat} {Q : xQ} {μ : xM}  (h : x_V S 102 21 L (.int (I 52) :: st) μ n Q) : x_V S 102 19 L (st) μ n Q := x_bipush (by decide +kernel) d102_19 h
theorem s102_21 {S : Nat × (Nat → Int32)} {L : List (Option Value)} {st : List Value} {n : Nat} {Q : xQ} {μ : xM} {x y : Int} (hx : ib x) (hy : ib y) (kt : x = y → x_V S 102 54 L (st) μ n Q) (kf : x ≠ y → x_V S 102 24 L (st) μ n Q) : x_V S 102 21 L (.int (I y) :: .int (I x) :: st) μ n Q := v_icmp_eq d102_21 (by decide) hx hy kt kf
theorem s102_24 {S : Nat × (Nat → Int32)} {L : List (Option Value)} {st : List Value} {n : Nat} {Q : xQ} {μ : xM} {x : Int32} (hl : L[0]? = some (some (.int x))) (h : x_V S 102 25 L (.int x :: st) μ n Q) : x_V S 102 24 L (st) μ n Q := x_iload_n d102_24 hl h
theorem s102_25 {S : Nat × (Nat → Int32)} {L : List (Option Value)} {st : List Value} {n : Nat} {Q : xQ} {μ : xM}  (h : x_V S 102 27 L (.int (I 53) :: st) μ n Q) : x_V S 102 25 L (st) μ n Q := x_bipush (by decide +kernel) d102_25 h
theorem s102_27 {S : Nat × (Nat → Int32)} {L : List (Option Value)} {st : List Value} {n : Nat} {Q : xQ} {μ : xM} {x y : Int} (hx : ib x) (hy : ib y) (kt : x = y → x_V S 102 54 L (st) μ n Q) (kf : x ≠ y → x_V S 102 30 L (st) μ n Q) : x_V S 102 27 L (.int (I y) :: .int (I x) :: st) μ n Q := v_icmp_eq d102_27 (by decide) hx hy kt kf
theorem s102_30 {S : Nat × (Nat → Int32)} {L : List (Option Value)} {st : List Value} {n : Nat} {Q : xQ} {μ : xM} {x : Int32} (hl : L[0]? = some (some (.int x))) (h : x_V S 102 31 L (.int x :: st) μ n Q) : x_V S 102 30 L (st) μ n Q := x_iload_n d102_30 hl h
theorem s102_31 {S : Nat × (Nat → Int32)} {L : List (Option Value)} {st : List Value} {n : Nat} {Q : xQ} {μ : xM}  (h : x_V S 102 33 L (.int (I 65) :: st) μ n Q) : x_V S 102 31 L (st) μ n Q := x_bipush (by decide +kernel) d102_31 h
theorem s102_33 {S : Nat × (Nat → Int32)} {L : List (Option Value)} {st : List Value} {n : Nat} {Q : xQ} {μ : xM} {x y : Int} (hx : ib x) (hy : ib y) (kt : x = y → x_V S 102 54 L (st) μ n Q) (kf : x ≠ y → x_V S 102 36 L (st) μ n Q) : x_V S 102 33 L (.int (I y) :: .int (I x) :: st) μ n Q := v_icmp_eq d102_33 (by decide) hx hy kt kf
theorem s102_36 {S : Nat × (Nat → Int32)} {L : List (Option Value)} {st : List Value} {n : Nat} {Q : xQ} {μ : xM} {x : Int32} (hl : L[0]? = some (some (.int x))) (h : x_V S 102 37 L (.int x :: st) μ n Q) : x_V S 102 36 L (st) μ n Q := x_iload_n d102_36 hl h
theorem s102_37 {S : Nat × (Nat → Int32)} {L : List (Option Value)} {st : List Value} {n : Nat} {Q : xQ} {μ : xM}  (h : x_V S 102 39 L (.int (I 68) :: st) μ n Q) : x_V S 102 37 L (st) μ n Q := x_bipush (by decide +kernel) d102_37 h
theorem s102_39 {S : Nat × (Nat → Int32)} {L : List (Option Value)} {st : List Value} {n : Nat} {Q : xQ} {μ : xM} {x y : Int} (hx : ib x) (hy : ib y) (kt : x = y → x_V S 102 54 L (st) μ n Q) (kf : x ≠ y → x_V S 102 42 L (st) μ n Q) : x_V S 102 39 L (.int (I y) :: .int (I x) :: st) μ n Q := v_icmp_eq d102_39 (by decide) hx hy kt kf
theorem s102_42 {S : Nat × (Nat → Int32)} {L : List (Option Value)} {st : List Value} {n : Nat} {Q : xQ} {μ : xM} {x : Int32} (hl : L[0]? = some (some (.int x))) (h : x_V S 102 43 L (.int x :: st) μ n Q) : x_V S 102 42 L (st) μ n Q := x_iload_n d102_42 hl h
theorem s102_43 {S : Nat × (Nat → Int32)} {L : List (Option Value)} {st : List Value} {n : Nat} {Q : xQ} {μ : xM}  (h : x_V S 102 45 L (.int (I 70) :: st) μ n Q) : x_V S 102 43 L (st) μ n Q := x_bipush (by decide +kernel) d102_43 h
theorem s102_45 {S : Nat × (Nat → Int32)} {L : List (Option Value)} {st : List Value} {n : Nat} {Q : xQ} {μ : xM} {x y : Int} (hx : ib x) (hy : ib y) (kt : x = y → x_V S 102 54 L (st) μ n Q) (kf : x ≠ y → x_V S 102 48 L (st) μ n Q) : x_V S 102 45 L (.int (I y) :: .int (I x) :: st) μ n Q := v_icmp_eq d102_45 (by decide) hx hy kt kf
theorem s102_48 {S : Nat × (Nat → Int32)} {L : List (Option Value)} {st : List Value} {n : Nat} {Q : xQ} {μ : xM} {x : Int32} (hl : L[0]? = some (some (.int x))) (h : x_V S 102 49 L (.int x :: st) μ n Q) : x_V S 102 48 L (st) μ n Q := x_iload_n d102_48 hl h
theorem s102_49 {S : Nat × (Nat → Int32)} {L : List (Option Value)} {st : List Value} {n : Nat} {Q : xQ} {μ : xM}  (h : x_V S 102 51 L (.int (I 71) :: st) μ n Q) : x_V S 102 49 L (st) μ n Q := x_bipush (by decide +kernel) d102_49 h
theorem s102_51 {S : Nat × (Nat → Int32)} {L : List (Option Value)} {st : List Value} {n : Nat} {Q : xQ} {μ : xM} {x y : Int} (hx : ib x) (hy : ib y) (kt : x ≠ y → x_V S 102 58 L (st) μ n Q) (kf : x = y → x_V S 102 54 L (st) μ n Q) : x_V S 102 51 L (.int (I y) :: .int (I x) :: st) μ n Q := v_icmp_ne d102_51 (by decide) hx hy kt kf
theorem s102_54 {S : Nat × (Nat → Int32)} {L : List (Option Value)} {st : List Value} {n : Nat} {Q : xQ} {μ : xM}  (h : x_V S 102 55 L (.int (I 1) :: st) μ n Q) : x_V S 102 54 L (st) μ n Q := x_iconst (by decide +kernel) d102_54 h
theorem s102_55 {S : Nat × (Nat → Int32)} {L : List (Option Value)} {st : List Value} {n : Nat} {Q : xQ} {μ : xM}  (h : x_V S 102 59 L (st) μ n Q) : x_V S 102 55 L (st) μ n Q := x_goto (tgt := 59) (by decide) d102_55 h
theorem s102_58 {S : Nat × (Nat → Int32)} {L : List (Option Value)} {st : List Value} {n : Nat} {Q : xQ} {μ : xM}  (h : x_V S 102 59 L (.int (I 0) :: st) μ n Q) : x_V S 102 58 L (st) μ n Q := x_iconst (by decide +kernel) d102_58 h
theorem s102_59 {S : Nat × (Nat → Int32)} {L : List (Option Value)} {st : List Value} {n : Nat} {Q : xQ} {μ : xM} {v : Int} (hv : v = 0 ∨ v = 1) (h : Q (.inl (some (.int (I v)))) μ n) : x_V S 102 59 L (.int (I v) :: []) μ n Q := v_zreturn d102_59 rfl hv h
theorem mC_103 : mC 103 = prog_12_method_21_code := rfl
theorem d103_0 : decode (mC 103) 0 = .ok (.aload_n 0, 1) := by rw [mC_103]; decide +kernel
theorem d103_1 : decode (mC 103) 1 = .ok (.iconst 0, 1) := by rw [mC_103]; decide +kernel
theorem d103_2 : decode (mC 103) 2 = .ok (.putfield 60, 3) := by rw [mC_103]; decide +kernel
theorem d103_5 : decode (mC 103) 5 = .ok (.iload_n 1, 1) := by rw [mC_103]; decide +kernel
theorem d103_6 : decode (mC 103) 6 = .ok (.invokestatic 134, 3) := by rw [mC_103]; decide +kernel
theorem d103_9 : decode (mC 103) 9 = .ok (.ifCond .eq 46, 3) := by rw [mC_103]; decide +kernel
theorem d103_12 : decode (mC 103) 12 = .ok (.iload_n 2, 1) := by rw [mC_103]; decide +kernel
theorem d103_13 : decode (mC 103) 13 = .ok (.iconst 0, 1) := by rw [mC_103]; decide +kernel
theorem d103_14 : decode (mC 103) 14 = .ok (.ldc 138, 2) := by rw [mC_103]; decide +kernel
theorem d103_16 : decode (mC 103) 16 = .ok (.invokestatic 139, 3) := by rw [mC_103]; decide +kernel
theorem d103_19 : decode (mC 103) 19 = .ok (.ifCond .eq 36, 3) := by rw [mC_103]; decide +kernel
theorem d103_22 : decode (mC 103) 22 = .ok (.iload 4, 2) := by rw [mC_103]; decide +kernel
theorem d103_24 : decode (mC 103) 24 = .ok (.iconst 0, 1) := by rw [mC_103]; decide +kernel
theorem d103_25 : decode (mC 103) 25 = .ok (.ldc 138, 2) := by rw [mC_103]; decide +kernel
theorem d103_27 : decode (mC 103) 27 = .ok (.invokestatic 139, 3) := by rw [mC_103]; decide +kernel
theorem d103_30 : decode (mC 103) 30 = .ok (.ifCond .eq 25, 3) := by rw [mC_103]; decide +kernel
theorem d103_33 : decode (mC 103) 33 = .ok (.iload 5, 2) := by rw [mC_103]; decide +kernel
theorem d103_35 : decode (mC 103) 35 = .ok (.iconst 0, 1) := by rw [mC_103]; decide +kernel
theorem d103_36 : decode (mC 103) 36 = .ok (.ldc 138, 2) := by rw [mC_103]; decide +kernel
theorem d103_38 : decode (mC 103) 38 = .ok (.invokestatic 139, 3) := by rw [mC_103]; decide +kernel
theorem d103_41 : decode (mC 103) 41 = .ok (.ifCond .eq 14, 3) := by rw [mC_103]; decide +kernel
theorem d103_44 : decode (mC 103) 44 = .ok (.iload 6, 2) := by rw [mC_103]; decide +kernel
theorem d103_46 : decode (mC 103) 46 = .ok (.iconst 0, 1) := by rw [mC_103]; decide +kernel
theorem d103_47 : decode (mC 103) 47 = .ok (.ldc 138, 2) := by rw [mC_103]; decide +kernel
theorem d103_49 : decode (mC 103) 49 = .ok (.invokestatic 139, 3) := by rw [mC_103]; decide +kernel
theorem d103_52 : decode (mC 103) 52 = .ok (.ifCond .ne 9, 3) := by rw [mC_103]; decide +kernel
theorem d103_55 : decode (mC 103) 55 = .ok (.aload_n 0, 1) := by rw [mC_103]; decide +kernel
theorem d103_56 : decode (mC 103) 56 = .ok (.iconst 1, 1) := by rw [mC_103]; decide +kernel
theorem d103_57 : decode (mC 103) 57 = .ok (.invokevirtual 143, 3) := by rw [mC_103]; decide +kernel
theorem d103_60 : decode (mC 103) 60 = .ok (.ireturn, 1) := by rw [mC_103]; decide +kernel
theorem d103_61 : decode (mC 103) 61 = .ok (.aload_n 0, 1) := by rw [mC_103]; decide +kernel
theorem d103_62 : decode (mC 103) 62 = .ok (.iconst 1, 1) := by rw [mC_103]; decide +kernel
theorem d103_63 : decode (mC 103) 63 = .ok (.putfield 63, 3) := by rw [mC_103]; decide +kernel
theorem d103_66 : decode (mC 103) 66 = .ok (.aload_n 0, 1) := by rw [mC_103]; decide +kernel
theorem d103_67 : decode (mC 103) 67 = .ok (.iload_n 1, 1) := by rw [mC_103]; decide +kernel
theorem d103_68 : decode (mC 103) 68 = .ok (.iload_n 2, 1) := by rw [mC_103]; decide +kernel
theorem d103_69 : decode (mC 103) 69 = .ok (.iload_n 3, 1) := by rw [mC_103]; decide +kernel
theorem d103_70 : decode (mC 103) 70 = .ok (.iload_n 1, 1) := by rw [mC_103]; decide +kernel
theorem d103_71 : decode (mC 103) 71 = .ok (.bipush 48, 2) := by rw [mC_103]; decide +kernel
theorem d103_73 : decode (mC 103) 73 = .ok (.if_icmp .ne 12, 3) := by rw [mC_103]; decide +kernel
theorem d103_76 : decode (mC 103) 76 = .ok (.iload 4, 2) := by rw [mC_103]; decide +kernel
theorem d103_78 : decode (mC 103) 78 = .ok (.ifCond .ne 7, 3) := by rw [mC_103]; decide +kernel
theorem d103_81 : decode (mC 103) 81 = .ok (.iconst (-1), 1) := by rw [mC_103]; decide +kernel
theorem d103_82 : decode (mC 103) 82 = .ok (.goto 5, 3) := by rw [mC_103]; decide +kernel
theorem d103_85 : decode (mC 103) 85 = .ok (.iload 4, 2) := by rw [mC_103]; decide +kernel
theorem d103_87 : decode (mC 103) 87 = .ok (.iload_n 1, 1) := by rw [mC_103]; decide +kernel
theorem d103_88 : decode (mC 103) 88 = .ok (.bipush 52, 2) := by rw [mC_103]; decide +kernel
theorem d103_90 : decode (mC 103) 90 = .ok (.if_icmp .ne 18, 3) := by rw [mC_103]; decide +kernel
theorem d103_93 : decode (mC 103) 93 = .ok (.iload 5, 2) := by rw [mC_103]; decide +kernel
theorem d103_95 : decode (mC 103) 95 = .ok (.ifCond .le 8, 3) := by rw [mC_103]; decide +kernel
theorem d103_98 : decode (mC 103) 98 = .ok (.bipush 89, 2) := by rw [mC_103]; decide +kernel
theorem d103_100 : decode (mC 103) 100 = .ok (.goto 10, 3) := by rw [mC_103]; decide +kernel
theorem d103_103 : decode (mC 103) 103 = .ok (.bipush 78, 2) := by rw [mC_103]; decide +kernel
theorem d103_105 : decode (mC 103) 105 = .ok (.goto 5, 3) := by rw [mC_103]; decide +kernel
theorem d103_108 : decode (mC 103) 108 = .ok (.iload 5, 2) := by rw [mC_103]; decide +kernel
theorem d103_110 : decode (mC 103) 110 = .ok (.iload 6, 2) := by rw [mC_103]; decide +kernel
theorem d103_112 : decode (mC 103) 112 = .ok (.iconst 0, 1) := by rw [mC_103]; decide +kernel
theorem d103_113 : decode (mC 103) 113 = .ok (.invokevirtual 108, 3) := by rw [mC_103]; decide +kernel
theorem d103_116 : decode (mC 103) 116 = .ok (.aload_n 0, 1) := by rw [mC_103]; decide +kernel
theorem d103_117 : decode (mC 103) 117 = .ok (.iconst 0, 1) := by rw [mC_103]; decide +kernel
theorem d103_118 : decode (mC 103) 118 = .ok (.putfield 63, 3) := by rw [mC_103]; decide +kernel
theorem d103_121 : decode (mC 103) 121 = .ok (.aload_n 0, 1) := by rw [mC_103]; decide +kernel
theorem d103_122 : decode (mC 103) 122 = .ok (.iconst 1, 1) := by rw [mC_103]; decide +kernel
theorem d103_123 : decode (mC 103) 123 = .ok (.putfield 146, 3) := by rw [mC_103]; decide +kernel
theorem d103_126 : decode (mC 103) 126 = .ok (.aload_n 0, 1) := by rw [mC_103]; decide +kernel
theorem d103_127 : decode (mC 103) 127 = .ok (.iconst 0, 1) := by rw [mC_103]; decide +kernel
theorem d103_128 : decode (mC 103) 128 = .ok (.putfield 70, 3) := by rw [mC_103]; decide +kernel
theorem d103_131 : decode (mC 103) 131 = .ok (.aload_n 0, 1) := by rw [mC_103]; decide +kernel
theorem d103_132 : decode (mC 103) 132 = .ok (.getfield 67, 3) := by rw [mC_103]; decide +kernel
theorem d103_135 : decode (mC 103) 135 = .ok (.ireturn, 1) := by rw [mC_103]; decide +kernel
theorem s103_0 {S : Nat × (Nat → Int32)} {L : List (Option Value)} {st : List Value} {n : Nat} {Q : xQ} {μ : xM} {a : Nat} (hl : L[0]? = some (some (.ref a))) (h : x_V S 103 1 L (.ref a :: st) μ n Q) : x_V S 103 0 L (st) μ n Q := x_aload_n d103_0 hl h
theorem s103_0N {S : Nat × (Nat → Int32)} {L : List (Option Value)} {st : List Value} {n : Nat} {Q : xQ} {μ : xM} (hl : L[0]? = some (some .null)) (h : x_V S 103 1 L (.null :: st) μ n Q) : x_V S 103 0 L st μ n Q := x_aload_nN d103_0 hl h
theorem s103_1 {S : Nat × (Nat → Int32)} {L : List (Option Value)} {st : List Value} {n : Nat} {Q : xQ} {μ : xM}  (h : x_V S 103 2 L (.int (I 0) :: st) μ n Q) : x_V S 103 1 L (st) μ n Q := x_iconst (by decide +kernel) d103_1 h
theorem s103_2 {S : Nat × (Nat → Int32)} {L : List (Option Value)} {st : List Value} {n : Nat} {Q : xQ} {g : Nat → Nat → Int} {a : Nat} {x : Int} (hs : x_sh a = (9, 39)) (hp : x_pt a 0 = none) (ha : a ≠ x_out) (h : x_V S 103 5 L (st) (x_vm (x_uf g a 0 x)) n Q) : x_V S 103 2 L (.int (I x) :: .ref a :: st) (x_vm g) n Q := v_put (i := 0) cf9 d103_2 (by decide) rfl w695 hs rfl hp ha h
theorem s103_5 {S : Nat × (Nat → Int32)} {L : List (Option Value)} {st : List Value} {n : Nat} {Q : xQ} {μ : xM} {x : Int32} (hl : L[1]? = some (some (.int x))) (h : x_V S 103 6 L (.int x :: st) μ n Q) : x_V S 103 5 L (st) μ n Q := x_iload_n d103_5 hl h
theorem s103_6 {S : Nat × (Nat → Int32)} {L : List (Option Value)} {st : List Value} {n : Nat} {Q : xQ} {μ : xM} {x0 : Int32} (hst : st.length ≤ 4) (h : x_V S 102 0 [some (.int x0)] [] μ n (x_bk S 103 6 L st Q)) : x_V S 103 6 L (.int x0 :: st) μ n Q := x_callS (k' := 102) (as := [.int x0]) (na := 1) d103_6 ⟨w824, by decide +kernel, by decide, by decide, by decide, by decide, by decide⟩ w822 w823 w10 (by decide +kernel) rfl (fun v hv => by
    simp only [List.mem_cons, List.not_mem_nil, or_false] at hv
    rcases hv with rfl <;> first | rfl | assumption) hst h
theorem s103_9 {S : Nat × (Nat → Int32)} {L : List (Option Value)} {st : List Value} {n : Nat} {Q : xQ} {μ : xM} {x : Int} (hx : ib x) (kt : x = 0 → x_V S 103 55 L (st) μ n Q) (kf : x ≠ 0 → x_V S 103 12 L (st) μ n Q) : x_V S 103 9 L (.int (I x) :: st) μ n Q := v_if_eq d103_9 (by decide) hx kt kf
theorem s103_12 {S : Nat × (Nat → Int32)} {L : List (Option Value)} {st : List Value} {n : Nat} {Q : xQ} {μ : xM} {x : Int32} (hl : L[2]? = some (some (.int x))) (h : x_V S 103 13 L (.int x :: st) μ n Q) : x_V S 103 12 L (st) μ n Q := x_iload_n d103_12 hl h
theorem s103_13 {S : Nat × (Nat → Int32)} {L : List (Option Value)} {st : List Value} {n : Nat} {Q : xQ} {μ : xM}  (h : x_V S 103 14 L (.int (I 0) :: st) μ n Q) : x_V S 103 13 L (st) μ n Q := x_iconst (by decide +kernel) d103_13 h
theorem s103_14 {S : Nat × (Nat → Int32)} {L : List (Option Value)} {st : List Value} {n : Nat} {Q : xQ} {μ : xM}  (h : x_V S 103 16 L (.int (I 999999) :: st) μ n Q) : x_V S 103 14 L (st) μ n Q := x_ldc (v := I 999999) d103_14 (by rw [show I 999999 = (999999 : Int32) from by decide +kernel]; exact w825) h
theorem s103_16 {S : Nat × (Nat → Int32)} {L : List (Option Value)} {st : List Value} {n : Nat} {Q : xQ} {μ : xM} {x0 : Int32} {x1 : Int32} {x2 : Int32} (hst : st.length ≤ 4) (h : x_V S 86 0 [some (.int x0), some (.int x1), some (.int x2)] [] μ n (x_bk S 103 16 L st Q)) : x_V S 103 16 L (.int x2 :: .int x1 :: .int x0 :: st) μ n Q := x_callS (k' := 86) (as := [.int x0, .int x1, .int x2]) (na := 3) d103_16 ⟨w828, by decide +kernel, by decide, by decide, by decide, by decide, by decide⟩ w826 w827 w10 (by decide +kernel) rfl (fun v hv => by
    simp only [List.mem_cons, List.not_mem_nil, or_false] at hv
    rcases hv with rfl | rfl | rfl <;> first | rfl | assumption) hst h
theorem s103_19 {S : Nat × (Nat → Int32)} {L : List (Option Value)} {st : List Value} {n : Nat} {Q : xQ} {μ : xM} {x : Int} (hx : ib x) (kt : x = 0 → x_V S 103 55 L (st) μ n Q) (kf : x ≠ 0 → x_V S 103 22 L (st) μ n Q) : x_V S 103 19 L (.int (I x) :: st) μ n Q := v_if_eq d103_19 (by decide) hx kt kf
theorem s103_22 {S : Nat × (Nat → Int32)} {L : List (Option Value)} {st : List Value} {n : Nat} {Q : xQ} {μ : xM} {x : Int32} (hl : L[4]? = some (some (.int x))) (h : x_V S 103 24 L (.int x :: st) μ n Q) : x_V S 103 22 L (st) μ n Q := x_iload d103_22 hl h
theorem s103_24 {S : Nat × (Nat → Int32)} {L : List (Option Value)} {st : List Value} {n : Nat} {Q : xQ} {μ : xM}  (h : x_V S 103 25 L (.int (I 0) :: st) μ n Q) : x_V S 103 24 L (st) μ n Q := x_iconst (by decide +kernel) d103_24 h
theorem s103_25 {S : Nat × (Nat → Int32)} {L : List (Option Value)} {st : List Value} {n : Nat} {Q : xQ} {μ : xM}  (h : x_V S 103 27 L (.int (I 999999) :: st) μ n Q) : x_V S 103 25 L (st) μ n Q := x_ldc (v := I 999999) d103_25 (by rw [show I 999999 = (999999 : Int32) from by decide +kernel]; exact w825) h
theorem s103_27 {S : Nat × (Nat → Int32)} {L : List (Option Value)} {st : List Value} {n : Nat} {Q : xQ} {μ : xM} {x0 : Int32} {x1 : Int32} {x2 : Int32} (hst : st.length ≤ 4) (h : x_V S 86 0 [some (.int x0), some (.int x1), some (.int x2)] [] μ n (x_bk S 103 27 L st Q)) : x_V S 103 27 L (.int x2 :: .int x1 :: .int x0 :: st) μ n Q := x_callS (k' := 86) (as := [.int x0, .int x1, .int x2]) (na := 3) d103_27 ⟨w828, by decide +kernel, by decide, by decide, by decide, by decide, by decide⟩ w826 w827 w10 (by decide +kernel) rfl (fun v hv => by
    simp only [List.mem_cons, List.not_mem_nil, or_false] at hv
    rcases hv with rfl | rfl | rfl <;> first | rfl | assumption) hst h
theorem s103_30 {S : Nat × (Nat → Int32)} {L : List (Option Value)} {st : List Value} {n : Nat} {Q : xQ} {μ : xM} {x : Int} (hx : ib x) (kt : x = 0 → x_V S 103 55 L (st) μ n Q) (kf : x ≠ 0 → x_V S 103 33 L (st) μ n Q) : x_V S 103 30 L (.int (I x) :: st) μ n Q := v_if_eq d103_30 (by decide) hx kt kf
theorem s103_33 {S : Nat × (Nat → Int32)} {L : List (Option Value)} {st : List Value} {n : Nat} {Q : xQ} {μ : xM} {x : Int32} (hl : L[5]? = some (some (.int x))) (h : x_V S 103 35 L (.int x :: st) μ n Q) : x_V S 103 33 L (st) μ n Q := x_iload d103_33 hl h
theorem s103_35 {S : Nat × (Nat → Int32)} {L : List (Option Value)} {st : List Value} {n : Nat} {Q : xQ} {μ : xM}  (h : x_V S 103 36 L (.int (I 0) :: st) μ n Q) : x_V S 103 35 L (st) μ n Q := x_iconst (by decide +kernel) d103_35 h
theorem s103_36 {S : Nat × (Nat → Int32)} {L : List (Option Value)} {st : List Value} {n : Nat} {Q : xQ} {μ : xM}  (h : x_V S 103 38 L (.int (I 999999) :: st) μ n Q) : x_V S 103 36 L (st) μ n Q := x_ldc (v := I 999999) d103_36 (by rw [show I 999999 = (999999 : Int32) from by decide +kernel]; exact w825) h
theorem s103_38 {S : Nat × (Nat → Int32)} {L : List (Option Value)} {st : List Value} {n : Nat} {Q : xQ} {μ : xM} {x0 : Int32} {x1 : Int32} {x2 : Int32} (hst : st.length ≤ 4) (h : x_V S 86 0 [some (.int x0), some (.int x1), some (.int x2)] [] μ n (x_bk S 103 38 L st Q)) : x_V S 103 38 L (.int x2 :: .int x1 :: .int x0 :: st) μ n Q := x_callS (k' := 86) (as := [.int x0, .int x1, .int x2]) (na := 3) d103_38 ⟨w828, by decide +kernel, by decide, by decide, by decide, by decide, by decide⟩ w826 w827 w10 (by decide +kernel) rfl (fun v hv => by
    simp only [List.mem_cons, List.not_mem_nil, or_false] at hv
    rcases hv with rfl | rfl | rfl <;> first | rfl | assumption) hst h
theorem s103_41 {S : Nat × (Nat → Int32)} {L : List (Option Value)} {st : List Value} {n : Nat} {Q : xQ} {μ : xM} {x : Int} (hx : ib x) (kt : x = 0 → x_V S 103 55 L (st) μ n Q) (kf : x ≠ 0 → x_V S 103 44 L (st) μ n Q) : x_V S 103 41 L (.int (I x) :: st) μ n Q := v_if_eq d103_41 (by decide) hx kt kf
theorem s103_44 {S : Nat × (Nat → Int32)} {L : List (Option Value)} {st : List Value} {n : Nat} {Q : xQ} {μ : xM} {x : Int32} (hl : L[6]? = some (some (.int x))) (h : x_V S 103 46 L (.int x :: st) μ n Q) : x_V S 103 44 L (st) μ n Q := x_iload d103_44 hl h
theorem s103_46 {S : Nat × (Nat → Int32)} {L : List (Option Value)} {st : List Value} {n : Nat} {Q : xQ} {μ : xM}  (h : x_V S 103 47 L (.int (I 0) :: st) μ n Q) : x_V S 103 46 L (st) μ n Q := x_iconst (by decide +kernel) d103_46 h
theorem s103_47 {S : Nat × (Nat → Int32)} {L : List (Option Value)} {st : List Value} {n : Nat} {Q : xQ} {μ : xM}  (h : x_V S 103 49 L (.int (I 999999) :: st) μ n Q) : x_V S 103 47 L (st) μ n Q := x_ldc (v := I 999999) d103_47 (by rw [show I 999999 = (999999 : Int32) from by decide +kernel]; exact w825) h
theorem s103_49 {S : Nat × (Nat → Int32)} {L : List (Option Value)} {st : List Value} {n : Nat} {Q : xQ} {μ : xM} {x0 : Int32} {x1 : Int32} {x2 : Int32} (hst : st.length ≤ 4) (h : x_V S 86 0 [some (.int x0), some (.int x1), some (.int x2)] [] μ n (x_bk S 103 49 L st Q)) : x_V S 103 49 L (.int x2 :: .int x1 :: .int x0 :: st) μ n Q := x_callS (k' := 86) (as := [.int x0, .int x1, .int x2]) (na := 3) d103_49 ⟨w828, by decide +kernel, by decide, by decide, by decide, by decide, by decide⟩ w826 w827 w10 (by decide +kernel) rfl (fun v hv => by
    simp only [List.mem_cons, List.not_mem_nil, or_false] at hv
    rcases hv with rfl | rfl | rfl <;> first | rfl | assumption) hst h
theorem s103_52 {S : Nat × (Nat → Int32)} {L : List (Option Value)} {st : List Value} {n : Nat} {Q : xQ} {μ : xM} {x : Int} (hx : ib x) (kt : x ≠ 0 → x_V S 103 61 L (st) μ n Q) (kf : x = 0 → x_V S 103 55 L (st) μ n Q) : x_V S 103 52 L (.int (I x) :: st) μ n Q := v_if_ne d103_52 (by decide) hx kt kf
theorem s103_55 {S : Nat × (Nat → Int32)} {L : List (Option Value)} {st : List Value} {n : Nat} {Q : xQ} {μ : xM} {a : Nat} (hl : L[0]? = some (some (.ref a))) (h : x_V S 103 56 L (.ref a :: st) μ n Q) : x_V S 103 55 L (st) μ n Q := x_aload_n d103_55 hl h
theorem s103_55N {S : Nat × (Nat → Int32)} {L : List (Option Value)} {st : List Value} {n : Nat} {Q : xQ} {μ : xM} (hl : L[0]? = some (some .null)) (h : x_V S 103 56 L (.null :: st) μ n Q) : x_V S 103 55 L st μ n Q := x_aload_nN d103_55 hl h
theorem s103_56 {S : Nat × (Nat → Int32)} {L : List (Option Value)} {st : List Value} {n : Nat} {Q : xQ} {μ : xM}  (h : x_V S 103 57 L (.int (I 1) :: st) μ n Q) : x_V S 103 56 L (st) μ n Q := x_iconst (by decide +kernel) d103_56 h
theorem s103_57 {S : Nat × (Nat → Int32)} {L : List (Option Value)} {st : List Value} {n : Nat} {Q : xQ} {μ : xM} {x0 : Int32} {a : Nat} (hs : x_sh a = (9, 39)) (hst : st.length ≤ 4) (h : x_V S 85 0 [some (.ref a), some (.int x0)] [] μ n (x_bk S 103 57 L st Q)) : x_V S 103 57 L (.int x0 :: .ref a :: st) μ n Q := x_callV (k' := 85) (as := [.int x0]) (na := 1) d103_57 ⟨w832, by decide +kernel, by decide, by decide, by decide, by decide, by decide⟩ cf9 w829 w831 wp24 (by decide +kernel) rfl hs (fun v hv => by
    simp only [List.mem_cons, List.not_mem_nil, or_false] at hv
    rcases hv with rfl <;> first | rfl | assumption) hst h
theorem s103_60 {S : Nat × (Nat → Int32)} {L : List (Option Value)} {st : List Value} {n : Nat} {Q : xQ} {μ : xM} {x : Int32} (h : Q (.inl (some (.int x))) μ n) : x_V S 103 60 L (.int x :: []) μ n Q := x_ireturn d103_60 rfl rfl h
theorem s103_61 {S : Nat × (Nat → Int32)} {L : List (Option Value)} {st : List Value} {n : Nat} {Q : xQ} {μ : xM} {a : Nat} (hl : L[0]? = some (some (.ref a))) (h : x_V S 103 62 L (.ref a :: st) μ n Q) : x_V S 103 61 L (st) μ n Q := x_aload_n d103_61 hl h
theorem s103_61N {S : Nat × (Nat → Int32)} {L : List (Option Value)} {st : List Value} {n : Nat} {Q : xQ} {μ : xM} (hl : L[0]? = some (some .null)) (h : x_V S 103 62 L (.null :: st) μ n Q) : x_V S 103 61 L st μ n Q := x_aload_nN d103_61 hl h
theorem s103_62 {S : Nat × (Nat → Int32)} {L : List (Option Value)} {st : List Value} {n : Nat} {Q : xQ} {μ : xM}  (h : x_V S 103 63 L (.int (I 1) :: st) μ n Q) : x_V S 103 62 L (st) μ n Q := x_iconst (by decide +kernel) d103_62 h
theorem s103_63 {S : Nat × (Nat → Int32)} {L : List (Option Value)} {st : List Value} {n : Nat} {Q : xQ} {g : Nat → Nat → Int} {a : Nat} {x : Int} (hs : x_sh a = (9, 39)) (hx : x = 0 ∨ x = 1) (hp : x_pt a 38 = none) (ha : a ≠ x_out) (h : x_V S 103 66 L (st) (x_vm (x_uf g a 38 x)) n Q) : x_V S 103 63 L (.int (I x) :: .ref a :: st) (x_vm g) n Q := v_putz (i := 38) cf9 d103_63 (by decide) rfl w733 hs rfl hx hp ha h
theorem s103_66 {S : Nat × (Nat → Int32)} {L : List (Option Value)} {st : List Value} {n : Nat} {Q : xQ} {μ : xM} {a : Nat} (hl : L[0]? = some (some (.ref a))) (h : x_V S 103 67 L (.ref a :: st) μ n Q) : x_V S 103 66 L (st) μ n Q := x_aload_n d103_66 hl h
theorem s103_66N {S : Nat × (Nat → Int32)} {L : List (Option Value)} {st : List Value} {n : Nat} {Q : xQ} {μ : xM} (hl : L[0]? = some (some .null)) (h : x_V S 103 67 L (.null :: st) μ n Q) : x_V S 103 66 L st μ n Q := x_aload_nN d103_66 hl h
theorem s103_67 {S : Nat × (Nat → Int32)} {L : List (Option Value)} {st : List Value} {n : Nat} {Q : xQ} {μ : xM} {x : Int32} (hl : L[1]? = some (some (.int x))) (h : x_V S 103 68 L (.int x :: st) μ n Q) : x_V S 103 67 L (st) μ n Q := x_iload_n d103_67 hl h
theorem s103_68 {S : Nat × (Nat → Int32)} {L : List (Option Value)} {st : List Value} {n : Nat} {Q : xQ} {μ : xM} {x : Int32} (hl : L[2]? = some (some (.int x))) (h : x_V S 103 69 L (.int x :: st) μ n Q) : x_V S 103 68 L (st) μ n Q := x_iload_n d103_68 hl h
theorem s103_69 {S : Nat × (Nat → Int32)} {L : List (Option Value)} {st : List Value} {n : Nat} {Q : xQ} {μ : xM} {x : Int32} (hl : L[3]? = some (some (.int x))) (h : x_V S 103 70 L (.int x :: st) μ n Q) : x_V S 103 69 L (st) μ n Q := x_iload_n d103_69 hl h
theorem s103_70 {S : Nat × (Nat → Int32)} {L : List (Option Value)} {st : List Value} {n : Nat} {Q : xQ} {μ : xM} {x : Int32} (hl : L[1]? = some (some (.int x))) (h : x_V S 103 71 L (.int x :: st) μ n Q) : x_V S 103 70 L (st) μ n Q := x_iload_n d103_70 hl h
theorem s103_71 {S : Nat × (Nat → Int32)} {L : List (Option Value)} {st : List Value} {n : Nat} {Q : xQ} {μ : xM}  (h : x_V S 103 73 L (.int (I 48) :: st) μ n Q) : x_V S 103 71 L (st) μ n Q := x_bipush (by decide +kernel) d103_71 h
theorem s103_73 {S : Nat × (Nat → Int32)} {L : List (Option Value)} {st : List Value} {n : Nat} {Q : xQ} {μ : xM} {x y : Int} (hx : ib x) (hy : ib y) (kt : x ≠ y → x_V S 103 85 L (st) μ n Q) (kf : x = y → x_V S 103 76 L (st) μ n Q) : x_V S 103 73 L (.int (I y) :: .int (I x) :: st) μ n Q := v_icmp_ne d103_73 (by decide) hx hy kt kf
theorem s103_76 {S : Nat × (Nat → Int32)} {L : List (Option Value)} {st : List Value} {n : Nat} {Q : xQ} {μ : xM} {x : Int32} (hl : L[4]? = some (some (.int x))) (h : x_V S 103 78 L (.int x :: st) μ n Q) : x_V S 103 76 L (st) μ n Q := x_iload d103_76 hl h
theorem s103_78 {S : Nat × (Nat → Int32)} {L : List (Option Value)} {st : List Value} {n : Nat} {Q : xQ} {μ : xM} {x : Int} (hx : ib x) (kt : x ≠ 0 → x_V S 103 85 L (st) μ n Q) (kf : x = 0 → x_V S 103 81 L (st) μ n Q) : x_V S 103 78 L (.int (I x) :: st) μ n Q := v_if_ne d103_78 (by decide) hx kt kf
theorem s103_81 {S : Nat × (Nat → Int32)} {L : List (Option Value)} {st : List Value} {n : Nat} {Q : xQ} {μ : xM}  (h : x_V S 103 82 L (.int (I (-1)) :: st) μ n Q) : x_V S 103 81 L (st) μ n Q := x_iconst (by decide +kernel) d103_81 h
theorem s103_82 {S : Nat × (Nat → Int32)} {L : List (Option Value)} {st : List Value} {n : Nat} {Q : xQ} {μ : xM}  (h : x_V S 103 87 L (st) μ n Q) : x_V S 103 82 L (st) μ n Q := x_goto (tgt := 87) (by decide) d103_82 h
theorem s103_85 {S : Nat × (Nat → Int32)} {L : List (Option Value)} {st : List Value} {n : Nat} {Q : xQ} {μ : xM} {x : Int32} (hl : L[4]? = some (some (.int x))) (h : x_V S 103 87 L (.int x :: st) μ n Q) : x_V S 103 85 L (st) μ n Q := x_iload d103_85 hl h
theorem s103_87 {S : Nat × (Nat → Int32)} {L : List (Option Value)} {st : List Value} {n : Nat} {Q : xQ} {μ : xM} {x : Int32} (hl : L[1]? = some (some (.int x))) (h : x_V S 103 88 L (.int x :: st) μ n Q) : x_V S 103 87 L (st) μ n Q := x_iload_n d103_87 hl h
theorem s103_88 {S : Nat × (Nat → Int32)} {L : List (Option Value)} {st : List Value} {n : Nat} {Q : xQ} {μ : xM}  (h : x_V S 103 90 L (.int (I 52) :: st) μ n Q) : x_V S 103 88 L (st) μ n Q := x_bipush (by decide +kernel) d103_88 h
theorem s103_90 {S : Nat × (Nat → Int32)} {L : List (Option Value)} {st : List Value} {n : Nat} {Q : xQ} {μ : xM} {x y : Int} (hx : ib x) (hy : ib y) (kt : x ≠ y → x_V S 103 108 L (st) μ n Q) (kf : x = y → x_V S 103 93 L (st) μ n Q) : x_V S 103 90 L (.int (I y) :: .int (I x) :: st) μ n Q := v_icmp_ne d103_90 (by decide) hx hy kt kf
theorem s103_93 {S : Nat × (Nat → Int32)} {L : List (Option Value)} {st : List Value} {n : Nat} {Q : xQ} {μ : xM} {x : Int32} (hl : L[5]? = some (some (.int x))) (h : x_V S 103 95 L (.int x :: st) μ n Q) : x_V S 103 93 L (st) μ n Q := x_iload d103_93 hl h
theorem s103_95 {S : Nat × (Nat → Int32)} {L : List (Option Value)} {st : List Value} {n : Nat} {Q : xQ} {μ : xM} {x : Int} (hx : ib x) (kt : x ≤ 0 → x_V S 103 103 L (st) μ n Q) (kf : 0 < x → x_V S 103 98 L (st) μ n Q) : x_V S 103 95 L (.int (I x) :: st) μ n Q := v_if_le d103_95 (by decide) hx kt kf
theorem s103_98 {S : Nat × (Nat → Int32)} {L : List (Option Value)} {st : List Value} {n : Nat} {Q : xQ} {μ : xM}  (h : x_V S 103 100 L (.int (I 89) :: st) μ n Q) : x_V S 103 98 L (st) μ n Q := x_bipush (by decide +kernel) d103_98 h
theorem s103_100 {S : Nat × (Nat → Int32)} {L : List (Option Value)} {st : List Value} {n : Nat} {Q : xQ} {μ : xM}  (h : x_V S 103 110 L (st) μ n Q) : x_V S 103 100 L (st) μ n Q := x_goto (tgt := 110) (by decide) d103_100 h
theorem s103_103 {S : Nat × (Nat → Int32)} {L : List (Option Value)} {st : List Value} {n : Nat} {Q : xQ} {μ : xM}  (h : x_V S 103 105 L (.int (I 78) :: st) μ n Q) : x_V S 103 103 L (st) μ n Q := x_bipush (by decide +kernel) d103_103 h
theorem s103_105 {S : Nat × (Nat → Int32)} {L : List (Option Value)} {st : List Value} {n : Nat} {Q : xQ} {μ : xM}  (h : x_V S 103 110 L (st) μ n Q) : x_V S 103 105 L (st) μ n Q := x_goto (tgt := 110) (by decide) d103_105 h
theorem s103_108 {S : Nat × (Nat → Int32)} {L : List (Option Value)} {st : List Value} {n : Nat} {Q : xQ} {μ : xM} {x : Int32} (hl : L[5]? = some (some (.int x))) (h : x_V S 103 110 L (.int x :: st) μ n Q) : x_V S 103 108 L (st) μ n Q := x_iload d103_108 hl h
theorem s103_110 {S : Nat × (Nat → Int32)} {L : List (Option Value)} {st : List Value} {n : Nat} {Q : xQ} {μ : xM} {x : Int32} (hl : L[6]? = some (some (.int x))) (h : x_V S 103 112 L (.int x :: st) μ n Q) : x_V S 103 110 L (st) μ n Q := x_iload d103_110 hl h
theorem s103_112 {S : Nat × (Nat → Int32)} {L : List (Option Value)} {st : List Value} {n : Nat} {Q : xQ} {μ : xM}  (h : x_V S 103 113 L (.int (I 0) :: st) μ n Q) : x_V S 103 112 L (st) μ n Q := x_iconst (by decide +kernel) d103_112 h
theorem s103_113 {S : Nat × (Nat → Int32)} {L : List (Option Value)} {st : List Value} {n : Nat} {Q : xQ} {μ : xM} {x0 : Int32} {x1 : Int32} {x2 : Int32} {x3 : Int32} {x4 : Int32} {x5 : Int32} {x6 : Int32} {a : Nat} (hs : x_sh a = (9, 39)) (hst : st.length ≤ 4) (h : x_V S 96 0 [some (.ref a), some (.int x0), some (.int x1), some (.int x2), some (.int x3), some (.int x4), some (.int x5), some (.int x6), none, none, none] [] μ n (x_bk S 103 113 L st Q)) : x_V S 103 113 L (.int x6 :: .int x5 :: .int x4 :: .int x3 :: .int x2 :: .int x1 :: .int x0 :: .ref a :: st) μ n Q := x_callV (k' := 96) (as := [.int x0, .int x1, .int x2, .int x3, .int x4, .int x5, .int x6]) (na := 7) d103_113 ⟨w836, by decide +kernel, by decide, by decide, by decide, by decide, by decide⟩ cf9 w833 w835 wp25 (by decide +kernel) rfl hs (fun v hv => by
    simp only [List.mem_cons, List.not_mem_nil, or_false] at hv
    rcases hv with rfl | rfl | rfl | rfl | rfl | rfl | rfl <;> first | rfl | assumption) hst h
theorem s103_116 {S : Nat × (Nat → Int32)} {L : List (Option Value)} {st : List Value} {n : Nat} {Q : xQ} {μ : xM} {a : Nat} (hl : L[0]? = some (some (.ref a))) (h : x_V S 103 117 L (.ref a :: st) μ n Q) : x_V S 103 116 L (st) μ n Q := x_aload_n d103_116 hl h
theorem s103_116N {S : Nat × (Nat → Int32)} {L : List (Option Value)} {st : List Value} {n : Nat} {Q : xQ} {μ : xM} (hl : L[0]? = some (some .null)) (h : x_V S 103 117 L (.null :: st) μ n Q) : x_V S 103 116 L st μ n Q := x_aload_nN d103_116 hl h
theorem s103_117 {S : Nat × (Nat → Int32)} {L : List (Option Value)} {st : List Value} {n : Nat} {Q : xQ} {μ : xM}  (h : x_V S 103 118 L (.int (I 0) :: st) μ n Q) : x_V S 103 117 L (st) μ n Q := x_iconst (by decide +kernel) d103_117 h
theorem s103_118 {S : Nat × (Nat → Int32)} {L : List (Option Value)} {st : List Value} {n : Nat} {Q : xQ} {g : Nat → Nat → Int} {a : Nat} {x : Int} (hs : x_sh a = (9, 39)) (hx : x = 0 ∨ x = 1) (hp : x_pt a 38 = none) (ha : a ≠ x_out) (h : x_V S 103 121 L (st) (x_vm (x_uf g a 38 x)) n Q) : x_V S 103 118 L (.int (I x) :: .ref a :: st) (x_vm g) n Q := v_putz (i := 38) cf9 d103_118 (by decide) rfl w733 hs rfl hx hp ha h
theorem s103_121 {S : Nat × (Nat → Int32)} {L : List (Option Value)} {st : List Value} {n : Nat} {Q : xQ} {μ : xM} {a : Nat} (hl : L[0]? = some (some (.ref a))) (h : x_V S 103 122 L (.ref a :: st) μ n Q) : x_V S 103 121 L (st) μ n Q := x_aload_n d103_121 hl h
theorem s103_121N {S : Nat × (Nat → Int32)} {L : List (Option Value)} {st : List Value} {n : Nat} {Q : xQ} {μ : xM} (hl : L[0]? = some (some .null)) (h : x_V S 103 122 L (.null :: st) μ n Q) : x_V S 103 121 L st μ n Q := x_aload_nN d103_121 hl h
theorem s103_122 {S : Nat × (Nat → Int32)} {L : List (Option Value)} {st : List Value} {n : Nat} {Q : xQ} {μ : xM}  (h : x_V S 103 123 L (.int (I 1) :: st) μ n Q) : x_V S 103 122 L (st) μ n Q := x_iconst (by decide +kernel) d103_122 h
theorem s103_123 {S : Nat × (Nat → Int32)} {L : List (Option Value)} {st : List Value} {n : Nat} {Q : xQ} {g : Nat → Nat → Int} {a : Nat} {x : Int} (hs : x_sh a = (9, 39)) (hx : x = 0 ∨ x = 1) (hp : x_pt a 1 = none) (ha : a ≠ x_out) (h : x_V S 103 126 L (st) (x_vm (x_uf g a 1 x)) n Q) : x_V S 103 123 L (.int (I x) :: .ref a :: st) (x_vm g) n Q := v_putz (i := 1) cf9 d103_123 (by decide) rfl w696 hs rfl hx hp ha h
theorem s103_126 {S : Nat × (Nat → Int32)} {L : List (Option Value)} {st : List Value} {n : Nat} {Q : xQ} {μ : xM} {a : Nat} (hl : L[0]? = some (some (.ref a))) (h : x_V S 103 127 L (.ref a :: st) μ n Q) : x_V S 103 126 L (st) μ n Q := x_aload_n d103_126 hl h
theorem s103_126N {S : Nat × (Nat → Int32)} {L : List (Option Value)} {st : List Value} {n : Nat} {Q : xQ} {μ : xM} (hl : L[0]? = some (some .null)) (h : x_V S 103 127 L (.null :: st) μ n Q) : x_V S 103 126 L st μ n Q := x_aload_nN d103_126 hl h
theorem s103_127 {S : Nat × (Nat → Int32)} {L : List (Option Value)} {st : List Value} {n : Nat} {Q : xQ} {μ : xM}  (h : x_V S 103 128 L (.int (I 0) :: st) μ n Q) : x_V S 103 127 L (st) μ n Q := x_iconst (by decide +kernel) d103_127 h
theorem s103_128 {S : Nat × (Nat → Int32)} {L : List (Option Value)} {st : List Value} {n : Nat} {Q : xQ} {g : Nat → Nat → Int} {a : Nat} {x : Int} (hs : x_sh a = (9, 39)) (hp : x_pt a 15 = none) (ha : a ≠ x_out) (h : x_V S 103 131 L (st) (x_vm (x_uf g a 15 x)) n Q) : x_V S 103 128 L (.int (I x) :: .ref a :: st) (x_vm g) n Q := v_put (i := 15) cf9 d103_128 (by decide) rfl w710 hs rfl hp ha h
theorem s103_131 {S : Nat × (Nat → Int32)} {L : List (Option Value)} {st : List Value} {n : Nat} {Q : xQ} {μ : xM} {a : Nat} (hl : L[0]? = some (some (.ref a))) (h : x_V S 103 132 L (.ref a :: st) μ n Q) : x_V S 103 131 L (st) μ n Q := x_aload_n d103_131 hl h
theorem s103_131N {S : Nat × (Nat → Int32)} {L : List (Option Value)} {st : List Value} {n : Nat} {Q : xQ} {μ : xM} (hl : L[0]? = some (some .null)) (h : x_V S 103 132 L (.null :: st) μ n Q) : x_V S 103 131 L st μ n Q := x_aload_nN d103_131 hl h
theorem s103_132 {S : Nat × (Nat → Int32)} {L : List (Option Value)} {st : List Value} {n : Nat} {Q : xQ} {g : Nat → Nat → Int} {a : Nat} (hs : x_sh a = (9, 39)) (hp : x_pt a 2 = none) (ha : a ≠ x_out) (h : x_V S 103 135 L (.int (I (g a 2)) :: st) (x_vm g) n Q) : x_V S 103 132 L (.ref a :: st) (x_vm g) n Q := v_get (i := 2) cf9 d103_132 (by decide) w697 hs hp ha h
theorem s103_135 {S : Nat × (Nat → Int32)} {L : List (Option Value)} {st : List Value} {n : Nat} {Q : xQ} {μ : xM} {x : Int32} (h : Q (.inl (some (.int x))) μ n) : x_V S 103 135 L (.int x :: []) μ n Q := x_ireturn d103_135 rfl rfl h
theorem mC_104 : mC 104 = prog_12_method_22_code := rfl
theorem d104_0 : decode (mC 104) 0 = .ok (.aload_n 0, 1) := by rw [mC_104]; decide +kernel
theorem d104_1 : decode (mC 104) 1 = .ok (.iconst 0, 1) := by rw [mC_104]; decide +kernel
theorem d104_2 : decode (mC 104) 2 = .ok (.putfield 60, 3) := by rw [mC_104]; decide +kernel
theorem d104_5 : decode (mC 104) 5 = .ok (.aload_n 0, 1) := by rw [mC_104]; decide +kernel
theorem d104_6 : decode (mC 104) 6 = .ok (.getfield 146, 3) := by rw [mC_104]; decide +kernel
theorem d104_9 : decode (mC 104) 9 = .ok (.ifCond .eq 17, 3) := by rw [mC_104]; decide +kernel
theorem d104_12 : decode (mC 104) 12 = .ok (.iload_n 1, 1) := by rw [mC_104]; decide +kernel
theorem d104_13 : decode (mC 104) 13 = .ok (.iconst 0, 1) := by rw [mC_104]; decide +kernel
theorem d104_14 : decode (mC 104) 14 = .ok (.aload_n 0, 1) := by rw [mC_104]; decide +kernel
theorem d104_15 : decode (mC 104) 15 = .ok (.getfield 67, 3) := by rw [mC_104]; decide +kernel
theorem d104_18 : decode (mC 104) 18 = .ok (.iconst 1, 1) := by rw [mC_104]; decide +kernel
theorem d104_19 : decode (mC 104) 19 = .ok (.isub, 1) := by rw [mC_104]; decide +kernel
theorem d104_20 : decode (mC 104) 20 = .ok (.invokestatic 139, 3) := by rw [mC_104]; decide +kernel
theorem d104_23 : decode (mC 104) 23 = .ok (.ifCond .ne 9, 3) := by rw [mC_104]; decide +kernel
theorem d104_26 : decode (mC 104) 26 = .ok (.aload_n 0, 1) := by rw [mC_104]; decide +kernel
theorem d104_27 : decode (mC 104) 27 = .ok (.iconst 1, 1) := by rw [mC_104]; decide +kernel
theorem d104_28 : decode (mC 104) 28 = .ok (.invokevirtual 143, 3) := by rw [mC_104]; decide +kernel
theorem d104_31 : decode (mC 104) 31 = .ok (.ireturn, 1) := by rw [mC_104]; decide +kernel
theorem d104_32 : decode (mC 104) 32 = .ok (.iload_n 2, 1) := by rw [mC_104]; decide +kernel
theorem d104_33 : decode (mC 104) 33 = .ok (.iconst 1, 1) := by rw [mC_104]; decide +kernel
theorem d104_34 : decode (mC 104) 34 = .ok (.bipush 127, 2) := by rw [mC_104]; decide +kernel
theorem d104_36 : decode (mC 104) 36 = .ok (.invokestatic 139, 3) := by rw [mC_104]; decide +kernel
theorem d104_39 : decode (mC 104) 39 = .ok (.ifCond .ne 9, 3) := by rw [mC_104]; decide +kernel
theorem d104_42 : decode (mC 104) 42 = .ok (.aload_n 0, 1) := by rw [mC_104]; decide +kernel
theorem d104_43 : decode (mC 104) 43 = .ok (.iconst 2, 1) := by rw [mC_104]; decide +kernel
theorem d104_44 : decode (mC 104) 44 = .ok (.invokevirtual 143, 3) := by rw [mC_104]; decide +kernel
theorem d104_47 : decode (mC 104) 47 = .ok (.ireturn, 1) := by rw [mC_104]; decide +kernel
theorem d104_48 : decode (mC 104) 48 = .ok (.aload_n 0, 1) := by rw [mC_104]; decide +kernel
theorem d104_49 : decode (mC 104) 49 = .ok (.getfield 7, 3) := by rw [mC_104]; decide +kernel
theorem d104_52 : decode (mC 104) 52 = .ok (.iload_n 1, 1) := by rw [mC_104]; decide +kernel
theorem d104_53 : decode (mC 104) 53 = .ok (.aload_n 0, 1) := by rw [mC_104]; decide +kernel
theorem d104_54 : decode (mC 104) 54 = .ok (.getfield 7, 3) := by rw [mC_104]; decide +kernel
theorem d104_57 : decode (mC 104) 57 = .ok (.iload_n 1, 1) := by rw [mC_104]; decide +kernel
theorem d104_58 : decode (mC 104) 58 = .ok (.iaload, 1) := by rw [mC_104]; decide +kernel
theorem d104_59 : decode (mC 104) 59 = .ok (.iload_n 2, 1) := by rw [mC_104]; decide +kernel
theorem d104_60 : decode (mC 104) 60 = .ok (.ixor, 1) := by rw [mC_104]; decide +kernel
theorem d104_61 : decode (mC 104) 61 = .ok (.iastore, 1) := by rw [mC_104]; decide +kernel
theorem d104_62 : decode (mC 104) 62 = .ok (.aload_n 0, 1) := by rw [mC_104]; decide +kernel
theorem d104_63 : decode (mC 104) 63 = .ok (.iconst 0, 1) := by rw [mC_104]; decide +kernel
theorem d104_64 : decode (mC 104) 64 = .ok (.putfield 70, 3) := by rw [mC_104]; decide +kernel
theorem d104_67 : decode (mC 104) 67 = .ok (.aload_n 0, 1) := by rw [mC_104]; decide +kernel
theorem d104_68 : decode (mC 104) 68 = .ok (.getfield 7, 3) := by rw [mC_104]; decide +kernel
theorem d104_71 : decode (mC 104) 71 = .ok (.iload_n 1, 1) := by rw [mC_104]; decide +kernel
theorem d104_72 : decode (mC 104) 72 = .ok (.iaload, 1) := by rw [mC_104]; decide +kernel
theorem d104_73 : decode (mC 104) 73 = .ok (.ireturn, 1) := by rw [mC_104]; decide +kernel
theorem s104_0 {S : Nat × (Nat → Int32)} {L : List (Option Value)} {st : List Value} {n : Nat} {Q : xQ} {μ : xM} {a : Nat} (hl : L[0]? = some (some (.ref a))) (h : x_V S 104 1 L (.ref a :: st) μ n Q) : x_V S 104 0 L (st) μ n Q := x_aload_n d104_0 hl h
theorem s104_0N {S : Nat × (Nat → Int32)} {L : List (Option Value)} {st : List Value} {n : Nat} {Q : xQ} {μ : xM} (hl : L[0]? = some (some .null)) (h : x_V S 104 1 L (.null :: st) μ n Q) : x_V S 104 0 L st μ n Q := x_aload_nN d104_0 hl h
theorem s104_1 {S : Nat × (Nat → Int32)} {L : List (Option Value)} {st : List Value} {n : Nat} {Q : xQ} {μ : xM}  (h : x_V S 104 2 L (.int (I 0) :: st) μ n Q) : x_V S 104 1 L (st) μ n Q := x_iconst (by decide +kernel) d104_1 h
theorem s104_2 {S : Nat × (Nat → Int32)} {L : List (Option Value)} {st : List Value} {n : Nat} {Q : xQ} {g : Nat → Nat → Int} {a : Nat} {x : Int} (hs : x_sh a = (9, 39)) (hp : x_pt a 0 = none) (ha : a ≠ x_out) (h : x_V S 104 5 L (st) (x_vm (x_uf g a 0 x)) n Q) : x_V S 104 2 L (.int (I x) :: .ref a :: st) (x_vm g) n Q := v_put (i := 0) cf9 d104_2 (by decide) rfl w695 hs rfl hp ha h
theorem s104_5 {S : Nat × (Nat → Int32)} {L : List (Option Value)} {st : List Value} {n : Nat} {Q : xQ} {μ : xM} {a : Nat} (hl : L[0]? = some (some (.ref a))) (h : x_V S 104 6 L (.ref a :: st) μ n Q) : x_V S 104 5 L (st) μ n Q := x_aload_n d104_5 hl h
theorem s104_5N {S : Nat × (Nat → Int32)} {L : List (Option Value)} {st : List Value} {n : Nat} {Q : xQ} {μ : xM} (hl : L[0]? = some (some .null)) (h : x_V S 104 6 L (.null :: st) μ n Q) : x_V S 104 5 L st μ n Q := x_aload_nN d104_5 hl h
theorem s104_6 {S : Nat × (Nat → Int32)} {L : List (Option Value)} {st : List Value} {n : Nat} {Q : xQ} {g : Nat → Nat → Int} {a : Nat} (hs : x_sh a = (9, 39)) (hp : x_pt a 1 = none) (ha : a ≠ x_out) (h : x_V S 104 9 L (.int (I (g a 1)) :: st) (x_vm g) n Q) : x_V S 104 6 L (.ref a :: st) (x_vm g) n Q := v_get (i := 1) cf9 d104_6 (by decide) w696 hs hp ha h
theorem s104_9 {S : Nat × (Nat → Int32)} {L : List (Option Value)} {st : List Value} {n : Nat} {Q : xQ} {μ : xM} {x : Int} (hx : ib x) (kt : x = 0 → x_V S 104 26 L (st) μ n Q) (kf : x ≠ 0 → x_V S 104 12 L (st) μ n Q) : x_V S 104 9 L (.int (I x) :: st) μ n Q := v_if_eq d104_9 (by decide) hx kt kf
theorem s104_12 {S : Nat × (Nat → Int32)} {L : List (Option Value)} {st : List Value} {n : Nat} {Q : xQ} {μ : xM} {x : Int32} (hl : L[1]? = some (some (.int x))) (h : x_V S 104 13 L (.int x :: st) μ n Q) : x_V S 104 12 L (st) μ n Q := x_iload_n d104_12 hl h
theorem s104_13 {S : Nat × (Nat → Int32)} {L : List (Option Value)} {st : List Value} {n : Nat} {Q : xQ} {μ : xM}  (h : x_V S 104 14 L (.int (I 0) :: st) μ n Q) : x_V S 104 13 L (st) μ n Q := x_iconst (by decide +kernel) d104_13 h
theorem s104_14 {S : Nat × (Nat → Int32)} {L : List (Option Value)} {st : List Value} {n : Nat} {Q : xQ} {μ : xM} {a : Nat} (hl : L[0]? = some (some (.ref a))) (h : x_V S 104 15 L (.ref a :: st) μ n Q) : x_V S 104 14 L (st) μ n Q := x_aload_n d104_14 hl h
theorem s104_14N {S : Nat × (Nat → Int32)} {L : List (Option Value)} {st : List Value} {n : Nat} {Q : xQ} {μ : xM} (hl : L[0]? = some (some .null)) (h : x_V S 104 15 L (.null :: st) μ n Q) : x_V S 104 14 L st μ n Q := x_aload_nN d104_14 hl h
theorem s104_15 {S : Nat × (Nat → Int32)} {L : List (Option Value)} {st : List Value} {n : Nat} {Q : xQ} {g : Nat → Nat → Int} {a : Nat} (hs : x_sh a = (9, 39)) (hp : x_pt a 2 = none) (ha : a ≠ x_out) (h : x_V S 104 18 L (.int (I (g a 2)) :: st) (x_vm g) n Q) : x_V S 104 15 L (.ref a :: st) (x_vm g) n Q := v_get (i := 2) cf9 d104_15 (by decide) w697 hs hp ha h
theorem s104_18 {S : Nat × (Nat → Int32)} {L : List (Option Value)} {st : List Value} {n : Nat} {Q : xQ} {μ : xM}  (h : x_V S 104 19 L (.int (I 1) :: st) μ n Q) : x_V S 104 18 L (st) μ n Q := x_iconst (by decide +kernel) d104_18 h
theorem s104_19 {S : Nat × (Nat → Int32)} {L : List (Option Value)} {st : List Value} {n : Nat} {Q : xQ} {μ : xM} {x y : Int} (h : x_V S 104 20 L (.int (I (x - y)) :: st) μ n Q) : x_V S 104 19 L (.int (I y) :: .int (I x) :: st) μ n Q := v_isub d104_19 h
theorem s104_20 {S : Nat × (Nat → Int32)} {L : List (Option Value)} {st : List Value} {n : Nat} {Q : xQ} {μ : xM} {x0 : Int32} {x1 : Int32} {x2 : Int32} (hst : st.length ≤ 4) (h : x_V S 86 0 [some (.int x0), some (.int x1), some (.int x2)] [] μ n (x_bk S 104 20 L st Q)) : x_V S 104 20 L (.int x2 :: .int x1 :: .int x0 :: st) μ n Q := x_callS (k' := 86) (as := [.int x0, .int x1, .int x2]) (na := 3) d104_20 ⟨w828, by decide +kernel, by decide, by decide, by decide, by decide, by decide⟩ w826 w827 w10 (by decide +kernel) rfl (fun v hv => by
    simp only [List.mem_cons, List.not_mem_nil, or_false] at hv
    rcases hv with rfl | rfl | rfl <;> first | rfl | assumption) hst h
theorem s104_23 {S : Nat × (Nat → Int32)} {L : List (Option Value)} {st : List Value} {n : Nat} {Q : xQ} {μ : xM} {x : Int} (hx : ib x) (kt : x ≠ 0 → x_V S 104 32 L (st) μ n Q) (kf : x = 0 → x_V S 104 26 L (st) μ n Q) : x_V S 104 23 L (.int (I x) :: st) μ n Q := v_if_ne d104_23 (by decide) hx kt kf
theorem s104_26 {S : Nat × (Nat → Int32)} {L : List (Option Value)} {st : List Value} {n : Nat} {Q : xQ} {μ : xM} {a : Nat} (hl : L[0]? = some (some (.ref a))) (h : x_V S 104 27 L (.ref a :: st) μ n Q) : x_V S 104 26 L (st) μ n Q := x_aload_n d104_26 hl h
theorem s104_26N {S : Nat × (Nat → Int32)} {L : List (Option Value)} {st : List Value} {n : Nat} {Q : xQ} {μ : xM} (hl : L[0]? = some (some .null)) (h : x_V S 104 27 L (.null :: st) μ n Q) : x_V S 104 26 L st μ n Q := x_aload_nN d104_26 hl h
theorem s104_27 {S : Nat × (Nat → Int32)} {L : List (Option Value)} {st : List Value} {n : Nat} {Q : xQ} {μ : xM}  (h : x_V S 104 28 L (.int (I 1) :: st) μ n Q) : x_V S 104 27 L (st) μ n Q := x_iconst (by decide +kernel) d104_27 h
theorem s104_28 {S : Nat × (Nat → Int32)} {L : List (Option Value)} {st : List Value} {n : Nat} {Q : xQ} {μ : xM} {x0 : Int32} {a : Nat} (hs : x_sh a = (9, 39)) (hst : st.length ≤ 4) (h : x_V S 85 0 [some (.ref a), some (.int x0)] [] μ n (x_bk S 104 28 L st Q)) : x_V S 104 28 L (.int x0 :: .ref a :: st) μ n Q := x_callV (k' := 85) (as := [.int x0]) (na := 1) d104_28 ⟨w832, by decide +kernel, by decide, by decide, by decide, by decide, by decide⟩ cf9 w829 w831 wp24 (by decide +kernel) rfl hs (fun v hv => by
    simp only [List.mem_cons, List.not_mem_nil, or_false] at hv
    rcases hv with rfl <;> first | rfl | assumption) hst h
theorem s104_31 {S : Nat × (Nat → Int32)} {L : List (Option Value)} {st : List Value} {n : Nat} {Q : xQ} {μ : xM} {x : Int32} (h : Q (.inl (some (.int x))) μ n) : x_V S 104 31 L (.int x :: []) μ n Q := x_ireturn d104_31 rfl rfl h
theorem s104_32 {S : Nat × (Nat → Int32)} {L : List (Option Value)} {st : List Value} {n : Nat} {Q : xQ} {μ : xM} {x : Int32} (hl : L[2]? = some (some (.int x))) (h : x_V S 104 33 L (.int x :: st) μ n Q) : x_V S 104 32 L (st) μ n Q := x_iload_n d104_32 hl h
theorem s104_33 {S : Nat × (Nat → Int32)} {L : List (Option Value)} {st : List Value} {n : Nat} {Q : xQ} {μ : xM}  (h : x_V S 104 34 L (.int (I 1) :: st) μ n Q) : x_V S 104 33 L (st) μ n Q := x_iconst (by decide +kernel) d104_33 h
theorem s104_34 {S : Nat × (Nat → Int32)} {L : List (Option Value)} {st : List Value} {n : Nat} {Q : xQ} {μ : xM}  (h : x_V S 104 36 L (.int (I 127) :: st) μ n Q) : x_V S 104 34 L (st) μ n Q := x_bipush (by decide +kernel) d104_34 h
theorem s104_36 {S : Nat × (Nat → Int32)} {L : List (Option Value)} {st : List Value} {n : Nat} {Q : xQ} {μ : xM} {x0 : Int32} {x1 : Int32} {x2 : Int32} (hst : st.length ≤ 4) (h : x_V S 86 0 [some (.int x0), some (.int x1), some (.int x2)] [] μ n (x_bk S 104 36 L st Q)) : x_V S 104 36 L (.int x2 :: .int x1 :: .int x0 :: st) μ n Q := x_callS (k' := 86) (as := [.int x0, .int x1, .int x2]) (na := 3) d104_36 ⟨w828, by decide +kernel, by decide, by decide, by decide, by decide, by decide⟩ w826 w827 w10 (by decide +kernel) rfl (fun v hv => by
    simp only [List.mem_cons, List.not_mem_nil, or_false] at hv
    rcases hv with rfl | rfl | rfl <;> first | rfl | assumption) hst h
theorem s104_39 {S : Nat × (Nat → Int32)} {L : List (Option Value)} {st : List Value} {n : Nat} {Q : xQ} {μ : xM} {x : Int} (hx : ib x) (kt : x ≠ 0 → x_V S 104 48 L (st) μ n Q) (kf : x = 0 → x_V S 104 42 L (st) μ n Q) : x_V S 104 39 L (.int (I x) :: st) μ n Q := v_if_ne d104_39 (by decide) hx kt kf
theorem s104_42 {S : Nat × (Nat → Int32)} {L : List (Option Value)} {st : List Value} {n : Nat} {Q : xQ} {μ : xM} {a : Nat} (hl : L[0]? = some (some (.ref a))) (h : x_V S 104 43 L (.ref a :: st) μ n Q) : x_V S 104 42 L (st) μ n Q := x_aload_n d104_42 hl h
theorem s104_42N {S : Nat × (Nat → Int32)} {L : List (Option Value)} {st : List Value} {n : Nat} {Q : xQ} {μ : xM} (hl : L[0]? = some (some .null)) (h : x_V S 104 43 L (.null :: st) μ n Q) : x_V S 104 42 L st μ n Q := x_aload_nN d104_42 hl h
theorem s104_43 {S : Nat × (Nat → Int32)} {L : List (Option Value)} {st : List Value} {n : Nat} {Q : xQ} {μ : xM}  (h : x_V S 104 44 L (.int (I 2) :: st) μ n Q) : x_V S 104 43 L (st) μ n Q := x_iconst (by decide +kernel) d104_43 h
theorem s104_44 {S : Nat × (Nat → Int32)} {L : List (Option Value)} {st : List Value} {n : Nat} {Q : xQ} {μ : xM} {x0 : Int32} {a : Nat} (hs : x_sh a = (9, 39)) (hst : st.length ≤ 4) (h : x_V S 85 0 [some (.ref a), some (.int x0)] [] μ n (x_bk S 104 44 L st Q)) : x_V S 104 44 L (.int x0 :: .ref a :: st) μ n Q := x_callV (k' := 85) (as := [.int x0]) (na := 1) d104_44 ⟨w832, by decide +kernel, by decide, by decide, by decide, by decide, by decide⟩ cf9 w829 w831 wp24 (by decide +kernel) rfl hs (fun v hv => by
    simp only [List.mem_cons, List.not_mem_nil, or_false] at hv
    rcases hv with rfl <;> first | rfl | assumption) hst h
theorem s104_47 {S : Nat × (Nat → Int32)} {L : List (Option Value)} {st : List Value} {n : Nat} {Q : xQ} {μ : xM} {x : Int32} (h : Q (.inl (some (.int x))) μ n) : x_V S 104 47 L (.int x :: []) μ n Q := x_ireturn d104_47 rfl rfl h
theorem s104_48 {S : Nat × (Nat → Int32)} {L : List (Option Value)} {st : List Value} {n : Nat} {Q : xQ} {μ : xM} {a : Nat} (hl : L[0]? = some (some (.ref a))) (h : x_V S 104 49 L (.ref a :: st) μ n Q) : x_V S 104 48 L (st) μ n Q := x_aload_n d104_48 hl h
theorem s104_48N {S : Nat × (Nat → Int32)} {L : List (Option Value)} {st : List Value} {n : Nat} {Q : xQ} {μ : xM} (hl : L[0]? = some (some .null)) (h : x_V S 104 49 L (.null :: st) μ n Q) : x_V S 104 48 L st μ n Q := x_aload_nN d104_48 hl h
theorem s104_49 {S : Nat × (Nat → Int32)} {L : List (Option Value)} {st : List Value} {n : Nat} {Q : xQ} {g : Nat → Nat → Int} {a : Nat} {v : Value} (hs : x_sh a = (9, 39)) (hp : x_pt a 3 = some v) (h : x_V S 104 52 L (v :: st) (x_vm g) n Q) : x_V S 104 49 L (.ref a :: st) (x_vm g) n Q := v_getp (i := 3) cf9 d104_49 (by decide) w698 hs hp h
theorem s104_52 {S : Nat × (Nat → Int32)} {L : List (Option Value)} {st : List Value} {n : Nat} {Q : xQ} {μ : xM} {x : Int32} (hl : L[1]? = some (some (.int x))) (h : x_V S 104 53 L (.int x :: st) μ n Q) : x_V S 104 52 L (st) μ n Q := x_iload_n d104_52 hl h
theorem s104_53 {S : Nat × (Nat → Int32)} {L : List (Option Value)} {st : List Value} {n : Nat} {Q : xQ} {μ : xM} {a : Nat} (hl : L[0]? = some (some (.ref a))) (h : x_V S 104 54 L (.ref a :: st) μ n Q) : x_V S 104 53 L (st) μ n Q := x_aload_n d104_53 hl h
theorem s104_53N {S : Nat × (Nat → Int32)} {L : List (Option Value)} {st : List Value} {n : Nat} {Q : xQ} {μ : xM} (hl : L[0]? = some (some .null)) (h : x_V S 104 54 L (.null :: st) μ n Q) : x_V S 104 53 L st μ n Q := x_aload_nN d104_53 hl h
theorem s104_54 {S : Nat × (Nat → Int32)} {L : List (Option Value)} {st : List Value} {n : Nat} {Q : xQ} {g : Nat → Nat → Int} {a : Nat} {v : Value} (hs : x_sh a = (9, 39)) (hp : x_pt a 3 = some v) (h : x_V S 104 57 L (v :: st) (x_vm g) n Q) : x_V S 104 54 L (.ref a :: st) (x_vm g) n Q := v_getp (i := 3) cf9 d104_54 (by decide) w698 hs hp h
theorem s104_57 {S : Nat × (Nat → Int32)} {L : List (Option Value)} {st : List Value} {n : Nat} {Q : xQ} {μ : xM} {x : Int32} (hl : L[1]? = some (some (.int x))) (h : x_V S 104 58 L (.int x :: st) μ n Q) : x_V S 104 57 L (st) μ n Q := x_iload_n d104_57 hl h
theorem s104_59 {S : Nat × (Nat → Int32)} {L : List (Option Value)} {st : List Value} {n : Nat} {Q : xQ} {μ : xM} {x : Int32} (hl : L[2]? = some (some (.int x))) (h : x_V S 104 60 L (.int x :: st) μ n Q) : x_V S 104 59 L (st) μ n Q := x_iload_n d104_59 hl h
theorem s104_60 {S : Nat × (Nat → Int32)} {L : List (Option Value)} {st : List Value} {n : Nat} {Q : xQ} {μ : xM} {x y : Int32} (h : x_V S 104 61 L (.int (x ^^^ y) :: st) μ n Q) : x_V S 104 60 L (.int y :: .int x :: st) μ n Q := x_ixor d104_60 h
theorem s104_62 {S : Nat × (Nat → Int32)} {L : List (Option Value)} {st : List Value} {n : Nat} {Q : xQ} {μ : xM} {a : Nat} (hl : L[0]? = some (some (.ref a))) (h : x_V S 104 63 L (.ref a :: st) μ n Q) : x_V S 104 62 L (st) μ n Q := x_aload_n d104_62 hl h
theorem s104_62N {S : Nat × (Nat → Int32)} {L : List (Option Value)} {st : List Value} {n : Nat} {Q : xQ} {μ : xM} (hl : L[0]? = some (some .null)) (h : x_V S 104 63 L (.null :: st) μ n Q) : x_V S 104 62 L st μ n Q := x_aload_nN d104_62 hl h
theorem s104_63 {S : Nat × (Nat → Int32)} {L : List (Option Value)} {st : List Value} {n : Nat} {Q : xQ} {μ : xM}  (h : x_V S 104 64 L (.int (I 0) :: st) μ n Q) : x_V S 104 63 L (st) μ n Q := x_iconst (by decide +kernel) d104_63 h
theorem s104_64 {S : Nat × (Nat → Int32)} {L : List (Option Value)} {st : List Value} {n : Nat} {Q : xQ} {g : Nat → Nat → Int} {a : Nat} {x : Int} (hs : x_sh a = (9, 39)) (hp : x_pt a 15 = none) (ha : a ≠ x_out) (h : x_V S 104 67 L (st) (x_vm (x_uf g a 15 x)) n Q) : x_V S 104 64 L (.int (I x) :: .ref a :: st) (x_vm g) n Q := v_put (i := 15) cf9 d104_64 (by decide) rfl w710 hs rfl hp ha h
theorem s104_67 {S : Nat × (Nat → Int32)} {L : List (Option Value)} {st : List Value} {n : Nat} {Q : xQ} {μ : xM} {a : Nat} (hl : L[0]? = some (some (.ref a))) (h : x_V S 104 68 L (.ref a :: st) μ n Q) : x_V S 104 67 L (st) μ n Q := x_aload_n d104_67 hl h
theorem s104_67N {S : Nat × (Nat → Int32)} {L : List (Option Value)} {st : List Value} {n : Nat} {Q : xQ} {μ : xM} (hl : L[0]? = some (some .null)) (h : x_V S 104 68 L (.null :: st) μ n Q) : x_V S 104 67 L st μ n Q := x_aload_nN d104_67 hl h
theorem s104_68 {S : Nat × (Nat → Int32)} {L : List (Option Value)} {st : List Value} {n : Nat} {Q : xQ} {g : Nat → Nat → Int} {a : Nat} {v : Value} (hs : x_sh a = (9, 39)) (hp : x_pt a 3 = some v) (h : x_V S 104 71 L (v :: st) (x_vm g) n Q) : x_V S 104 68 L (.ref a :: st) (x_vm g) n Q := v_getp (i := 3) cf9 d104_68 (by decide) w698 hs hp h
theorem s104_71 {S : Nat × (Nat → Int32)} {L : List (Option Value)} {st : List Value} {n : Nat} {Q : xQ} {μ : xM} {x : Int32} (hl : L[1]? = some (some (.int x))) (h : x_V S 104 72 L (.int x :: st) μ n Q) : x_V S 104 71 L (st) μ n Q := x_iload_n d104_71 hl h
theorem s104_73 {S : Nat × (Nat → Int32)} {L : List (Option Value)} {st : List Value} {n : Nat} {Q : xQ} {μ : xM} {x : Int32} (h : Q (.inl (some (.int x))) μ n) : x_V S 104 73 L (.int x :: []) μ n Q := x_ireturn d104_73 rfl rfl h
theorem mC_105 : mC 105 = prog_12_method_23_code := rfl
theorem d105_0 : decode (mC 105) 0 = .ok (.aload_n 0, 1) := by rw [mC_105]; decide +kernel
theorem d105_1 : decode (mC 105) 1 = .ok (.iconst 0, 1) := by rw [mC_105]; decide +kernel
theorem d105_2 : decode (mC 105) 2 = .ok (.putfield 60, 3) := by rw [mC_105]; decide +kernel
theorem d105_5 : decode (mC 105) 5 = .ok (.iload_n 1, 1) := by rw [mC_105]; decide +kernel
theorem d105_6 : decode (mC 105) 6 = .ok (.iconst 0, 1) := by rw [mC_105]; decide +kernel
theorem d105_7 : decode (mC 105) 7 = .ok (.bipush 127, 2) := by rw [mC_105]; decide +kernel
theorem d105_9 : decode (mC 105) 9 = .ok (.invokestatic 139, 3) := by rw [mC_105]; decide +kernel
theorem d105_12 : decode (mC 105) 12 = .ok (.ifCond .ne 9, 3) := by rw [mC_105]; decide +kernel
theorem d105_15 : decode (mC 105) 15 = .ok (.aload_n 0, 1) := by rw [mC_105]; decide +kernel
theorem d105_16 : decode (mC 105) 16 = .ok (.iconst 1, 1) := by rw [mC_105]; decide +kernel
theorem d105_17 : decode (mC 105) 17 = .ok (.invokevirtual 143, 3) := by rw [mC_105]; decide +kernel
theorem d105_20 : decode (mC 105) 20 = .ok (.ireturn, 1) := by rw [mC_105]; decide +kernel
theorem d105_21 : decode (mC 105) 21 = .ok (.aload_n 0, 1) := by rw [mC_105]; decide +kernel
theorem d105_22 : decode (mC 105) 22 = .ok (.getfield 146, 3) := by rw [mC_105]; decide +kernel
theorem d105_25 : decode (mC 105) 25 = .ok (.ifCond .eq 10, 3) := by rw [mC_105]; decide +kernel
theorem d105_28 : decode (mC 105) 28 = .ok (.aload_n 0, 1) := by rw [mC_105]; decide +kernel
theorem d105_29 : decode (mC 105) 29 = .ok (.getfield 67, 3) := by rw [mC_105]; decide +kernel
theorem d105_32 : decode (mC 105) 32 = .ok (.goto 4, 3) := by rw [mC_105]; decide +kernel
theorem d105_35 : decode (mC 105) 35 = .ok (.iconst 0, 1) := by rw [mC_105]; decide +kernel
theorem d105_36 : decode (mC 105) 36 = .ok (.istore_n 2, 1) := by rw [mC_105]; decide +kernel
theorem d105_37 : decode (mC 105) 37 = .ok (.iload_n 2, 1) := by rw [mC_105]; decide +kernel
theorem d105_38 : decode (mC 105) 38 = .ok (.bipush 120, 2) := by rw [mC_105]; decide +kernel
theorem d105_40 : decode (mC 105) 40 = .ok (.if_icmp .ne 9, 3) := by rw [mC_105]; decide +kernel
theorem d105_43 : decode (mC 105) 43 = .ok (.aload_n 0, 1) := by rw [mC_105]; decide +kernel
theorem d105_44 : decode (mC 105) 44 = .ok (.iconst 2, 1) := by rw [mC_105]; decide +kernel
theorem d105_45 : decode (mC 105) 45 = .ok (.invokevirtual 143, 3) := by rw [mC_105]; decide +kernel
theorem d105_48 : decode (mC 105) 48 = .ok (.ireturn, 1) := by rw [mC_105]; decide +kernel
theorem d105_49 : decode (mC 105) 49 = .ok (.aload_n 0, 1) := by rw [mC_105]; decide +kernel
theorem d105_50 : decode (mC 105) 50 = .ok (.iconst 1, 1) := by rw [mC_105]; decide +kernel
theorem d105_51 : decode (mC 105) 51 = .ok (.putfield 146, 3) := by rw [mC_105]; decide +kernel
theorem d105_54 : decode (mC 105) 54 = .ok (.aload_n 0, 1) := by rw [mC_105]; decide +kernel
theorem d105_55 : decode (mC 105) 55 = .ok (.getfield 7, 3) := by rw [mC_105]; decide +kernel
theorem d105_58 : decode (mC 105) 58 = .ok (.iload_n 2, 1) := by rw [mC_105]; decide +kernel
theorem d105_59 : decode (mC 105) 59 = .ok (.iload_n 1, 1) := by rw [mC_105]; decide +kernel
theorem d105_60 : decode (mC 105) 60 = .ok (.iastore, 1) := by rw [mC_105]; decide +kernel
theorem d105_61 : decode (mC 105) 61 = .ok (.aload_n 0, 1) := by rw [mC_105]; decide +kernel
theorem d105_62 : decode (mC 105) 62 = .ok (.iload_n 2, 1) := by rw [mC_105]; decide +kernel
theorem d105_63 : decode (mC 105) 63 = .ok (.iconst 1, 1) := by rw [mC_105]; decide +kernel
theorem d105_64 : decode (mC 105) 64 = .ok (.iadd, 1) := by rw [mC_105]; decide +kernel
theorem d105_65 : decode (mC 105) 65 = .ok (.putfield 67, 3) := by rw [mC_105]; decide +kernel
theorem d105_68 : decode (mC 105) 68 = .ok (.aload_n 0, 1) := by rw [mC_105]; decide +kernel
theorem d105_69 : decode (mC 105) 69 = .ok (.iconst 0, 1) := by rw [mC_105]; decide +kernel
theorem d105_70 : decode (mC 105) 70 = .ok (.putfield 70, 3) := by rw [mC_105]; decide +kernel
theorem d105_73 : decode (mC 105) 73 = .ok (.aload_n 0, 1) := by rw [mC_105]; decide +kernel
theorem d105_74 : decode (mC 105) 74 = .ok (.getfield 67, 3) := by rw [mC_105]; decide +kernel
theorem d105_77 : decode (mC 105) 77 = .ok (.ireturn, 1) := by rw [mC_105]; decide +kernel
theorem s105_0 {S : Nat × (Nat → Int32)} {L : List (Option Value)} {st : List Value} {n : Nat} {Q : xQ} {μ : xM} {a : Nat} (hl : L[0]? = some (some (.ref a))) (h : x_V S 105 1 L (.ref a :: st) μ n Q) : x_V S 105 0 L (st) μ n Q := x_aload_n d105_0 hl h
theorem s105_0N {S : Nat × (Nat → Int32)} {L : List (Option Value)} {st : List Value} {n : Nat} {Q : xQ} {μ : xM} (hl : L[0]? = some (some .null)) (h : x_V S 105 1 L (.null :: st) μ n Q) : x_V S 105 0 L st μ n Q := x_aload_nN d105_0 hl h
theorem s105_1 {S : Nat × (Nat → Int32)} {L : List (Option Value)} {st : List Value} {n : Nat} {Q : xQ} {μ : xM}  (h : x_V S 105 2 L (.int (I 0) :: st) μ n Q) : x_V S 105 1 L (st) μ n Q := x_iconst (by decide +kernel) d105_1 h
theorem s105_2 {S : Nat × (Nat → Int32)} {L : List (Option Value)} {st : List Value} {n : Nat} {Q : xQ} {g : Nat → Nat → Int} {a : Nat} {x : Int} (hs : x_sh a = (9, 39)) (hp : x_pt a 0 = none) (ha : a ≠ x_out) (h : x_V S 105 5 L (st) (x_vm (x_uf g a 0 x)) n Q) : x_V S 105 2 L (.int (I x) :: .ref a :: st) (x_vm g) n Q := v_put (i := 0) cf9 d105_2 (by decide) rfl w695 hs rfl hp ha h
theorem s105_5 {S : Nat × (Nat → Int32)} {L : List (Option Value)} {st : List Value} {n : Nat} {Q : xQ} {μ : xM} {x : Int32} (hl : L[1]? = some (some (.int x))) (h : x_V S 105 6 L (.int x :: st) μ n Q) : x_V S 105 5 L (st) μ n Q := x_iload_n d105_5 hl h
theorem s105_6 {S : Nat × (Nat → Int32)} {L : List (Option Value)} {st : List Value} {n : Nat} {Q : xQ} {μ : xM}  (h : x_V S 105 7 L (.int (I 0) :: st) μ n Q) : x_V S 105 6 L (st) μ n Q := x_iconst (by decide +kernel) d105_6 h
theorem s105_7 {S : Nat × (Nat → Int32)} {L : List (Option Value)} {st : List Value} {n : Nat} {Q : xQ} {μ : xM}  (h : x_V S 105 9 L (.int (I 127) :: st) μ n Q) : x_V S 105 7 L (st) μ n Q := x_bipush (by decide +kernel) d105_7 h
theorem s105_9 {S : Nat × (Nat → Int32)} {L : List (Option Value)} {st : List Value} {n : Nat} {Q : xQ} {μ : xM} {x0 : Int32} {x1 : Int32} {x2 : Int32} (hst : st.length ≤ 4) (h : x_V S 86 0 [some (.int x0), some (.int x1), some (.int x2)] [] μ n (x_bk S 105 9 L st Q)) : x_V S 105 9 L (.int x2 :: .int x1 :: .int x0 :: st) μ n Q := x_callS (k' := 86) (as := [.int x0, .int x1, .int x2]) (na := 3) d105_9 ⟨w828, by decide +kernel, by decide, by decide, by decide, by decide, by decide⟩ w826 w827 w10 (by decide +kernel) rfl (fun v hv => by
    simp only [List.mem_cons, List.not_mem_nil, or_false] at hv
    rcases hv with rfl | rfl | rfl <;> first | rfl | assumption) hst h
theorem s105_12 {S : Nat × (Nat → Int32)} {L : List (Option Value)} {st : List Value} {n : Nat} {Q : xQ} {μ : xM} {x : Int} (hx : ib x) (kt : x ≠ 0 → x_V S 105 21 L (st) μ n Q) (kf : x = 0 → x_V S 105 15 L (st) μ n Q) : x_V S 105 12 L (.int (I x) :: st) μ n Q := v_if_ne d105_12 (by decide) hx kt kf
theorem s105_15 {S : Nat × (Nat → Int32)} {L : List (Option Value)} {st : List Value} {n : Nat} {Q : xQ} {μ : xM} {a : Nat} (hl : L[0]? = some (some (.ref a))) (h : x_V S 105 16 L (.ref a :: st) μ n Q) : x_V S 105 15 L (st) μ n Q := x_aload_n d105_15 hl h
theorem s105_15N {S : Nat × (Nat → Int32)} {L : List (Option Value)} {st : List Value} {n : Nat} {Q : xQ} {μ : xM} (hl : L[0]? = some (some .null)) (h : x_V S 105 16 L (.null :: st) μ n Q) : x_V S 105 15 L st μ n Q := x_aload_nN d105_15 hl h
theorem s105_16 {S : Nat × (Nat → Int32)} {L : List (Option Value)} {st : List Value} {n : Nat} {Q : xQ} {μ : xM}  (h : x_V S 105 17 L (.int (I 1) :: st) μ n Q) : x_V S 105 16 L (st) μ n Q := x_iconst (by decide +kernel) d105_16 h
theorem s105_17 {S : Nat × (Nat → Int32)} {L : List (Option Value)} {st : List Value} {n : Nat} {Q : xQ} {μ : xM} {x0 : Int32} {a : Nat} (hs : x_sh a = (9, 39)) (hst : st.length ≤ 4) (h : x_V S 85 0 [some (.ref a), some (.int x0)] [] μ n (x_bk S 105 17 L st Q)) : x_V S 105 17 L (.int x0 :: .ref a :: st) μ n Q := x_callV (k' := 85) (as := [.int x0]) (na := 1) d105_17 ⟨w832, by decide +kernel, by decide, by decide, by decide, by decide, by decide⟩ cf9 w829 w831 wp24 (by decide +kernel) rfl hs (fun v hv => by
    simp only [List.mem_cons, List.not_mem_nil, or_false] at hv
    rcases hv with rfl <;> first | rfl | assumption) hst h
theorem s105_20 {S : Nat × (Nat → Int32)} {L : List (Option Value)} {st : List Value} {n : Nat} {Q : xQ} {μ : xM} {x : Int32} (h : Q (.inl (some (.int x))) μ n) : x_V S 105 20 L (.int x :: []) μ n Q := x_ireturn d105_20 rfl rfl h
theorem s105_21 {S : Nat × (Nat → Int32)} {L : List (Option Value)} {st : List Value} {n : Nat} {Q : xQ} {μ : xM} {a : Nat} (hl : L[0]? = some (some (.ref a))) (h : x_V S 105 22 L (.ref a :: st) μ n Q) : x_V S 105 21 L (st) μ n Q := x_aload_n d105_21 hl h
theorem s105_21N {S : Nat × (Nat → Int32)} {L : List (Option Value)} {st : List Value} {n : Nat} {Q : xQ} {μ : xM} (hl : L[0]? = some (some .null)) (h : x_V S 105 22 L (.null :: st) μ n Q) : x_V S 105 21 L st μ n Q := x_aload_nN d105_21 hl h
theorem s105_22 {S : Nat × (Nat → Int32)} {L : List (Option Value)} {st : List Value} {n : Nat} {Q : xQ} {g : Nat → Nat → Int} {a : Nat} (hs : x_sh a = (9, 39)) (hp : x_pt a 1 = none) (ha : a ≠ x_out) (h : x_V S 105 25 L (.int (I (g a 1)) :: st) (x_vm g) n Q) : x_V S 105 22 L (.ref a :: st) (x_vm g) n Q := v_get (i := 1) cf9 d105_22 (by decide) w696 hs hp ha h
theorem s105_25 {S : Nat × (Nat → Int32)} {L : List (Option Value)} {st : List Value} {n : Nat} {Q : xQ} {μ : xM} {x : Int} (hx : ib x) (kt : x = 0 → x_V S 105 35 L (st) μ n Q) (kf : x ≠ 0 → x_V S 105 28 L (st) μ n Q) : x_V S 105 25 L (.int (I x) :: st) μ n Q := v_if_eq d105_25 (by decide) hx kt kf
theorem s105_28 {S : Nat × (Nat → Int32)} {L : List (Option Value)} {st : List Value} {n : Nat} {Q : xQ} {μ : xM} {a : Nat} (hl : L[0]? = some (some (.ref a))) (h : x_V S 105 29 L (.ref a :: st) μ n Q) : x_V S 105 28 L (st) μ n Q := x_aload_n d105_28 hl h
theorem s105_28N {S : Nat × (Nat → Int32)} {L : List (Option Value)} {st : List Value} {n : Nat} {Q : xQ} {μ : xM} (hl : L[0]? = some (some .null)) (h : x_V S 105 29 L (.null :: st) μ n Q) : x_V S 105 28 L st μ n Q := x_aload_nN d105_28 hl h
theorem s105_29 {S : Nat × (Nat → Int32)} {L : List (Option Value)} {st : List Value} {n : Nat} {Q : xQ} {g : Nat → Nat → Int} {a : Nat} (hs : x_sh a = (9, 39)) (hp : x_pt a 2 = none) (ha : a ≠ x_out) (h : x_V S 105 32 L (.int (I (g a 2)) :: st) (x_vm g) n Q) : x_V S 105 29 L (.ref a :: st) (x_vm g) n Q := v_get (i := 2) cf9 d105_29 (by decide) w697 hs hp ha h
theorem s105_32 {S : Nat × (Nat → Int32)} {L : List (Option Value)} {st : List Value} {n : Nat} {Q : xQ} {μ : xM}  (h : x_V S 105 36 L (st) μ n Q) : x_V S 105 32 L (st) μ n Q := x_goto (tgt := 36) (by decide) d105_32 h
theorem s105_35 {S : Nat × (Nat → Int32)} {L : List (Option Value)} {st : List Value} {n : Nat} {Q : xQ} {μ : xM}  (h : x_V S 105 36 L (.int (I 0) :: st) μ n Q) : x_V S 105 35 L (st) μ n Q := x_iconst (by decide +kernel) d105_35 h
theorem s105_36 {S : Nat × (Nat → Int32)} {L : List (Option Value)} {st : List Value} {n : Nat} {Q : xQ} {μ : xM} {x : Int32} (h : x_V S 105 37 (L.set 2 (some (.int x))) (st) μ n Q) : x_V S 105 36 L (.int x :: st) μ n Q := x_istore_n d105_36 (by decide) h
theorem s105_37 {S : Nat × (Nat → Int32)} {L : List (Option Value)} {st : List Value} {n : Nat} {Q : xQ} {μ : xM} {x : Int32} (hl : L[2]? = some (some (.int x))) (h : x_V S 105 38 L (.int x :: st) μ n Q) : x_V S 105 37 L (st) μ n Q := x_iload_n d105_37 hl h
theorem s105_38 {S : Nat × (Nat → Int32)} {L : List (Option Value)} {st : List Value} {n : Nat} {Q : xQ} {μ : xM}  (h : x_V S 105 40 L (.int (I 120) :: st) μ n Q) : x_V S 105 38 L (st) μ n Q := x_bipush (by decide +kernel) d105_38 h
theorem s105_40 {S : Nat × (Nat → Int32)} {L : List (Option Value)} {st : List Value} {n : Nat} {Q : xQ} {μ : xM} {x y : Int} (hx : ib x) (hy : ib y) (kt : x ≠ y → x_V S 105 49 L (st) μ n Q) (kf : x = y → x_V S 105 43 L (st) μ n Q) : x_V S 105 40 L (.int (I y) :: .int (I x) :: st) μ n Q := v_icmp_ne d105_40 (by decide) hx hy kt kf
theorem s105_43 {S : Nat × (Nat → Int32)} {L : List (Option Value)} {st : List Value} {n : Nat} {Q : xQ} {μ : xM} {a : Nat} (hl : L[0]? = some (some (.ref a))) (h : x_V S 105 44 L (.ref a :: st) μ n Q) : x_V S 105 43 L (st) μ n Q := x_aload_n d105_43 hl h
theorem s105_43N {S : Nat × (Nat → Int32)} {L : List (Option Value)} {st : List Value} {n : Nat} {Q : xQ} {μ : xM} (hl : L[0]? = some (some .null)) (h : x_V S 105 44 L (.null :: st) μ n Q) : x_V S 105 43 L st μ n Q := x_aload_nN d105_43 hl h
theorem s105_44 {S : Nat × (Nat → Int32)} {L : List (Option Value)} {st : List Value} {n : Nat} {Q : xQ} {μ : xM}  (h : x_V S 105 45 L (.int (I 2) :: st) μ n Q) : x_V S 105 44 L (st) μ n Q := x_iconst (by decide +kernel) d105_44 h
theorem s105_45 {S : Nat × (Nat → Int32)} {L : List (Option Value)} {st : List Value} {n : Nat} {Q : xQ} {μ : xM} {x0 : Int32} {a : Nat} (hs : x_sh a = (9, 39)) (hst : st.length ≤ 4) (h : x_V S 85 0 [some (.ref a), some (.int x0)] [] μ n (x_bk S 105 45 L st Q)) : x_V S 105 45 L (.int x0 :: .ref a :: st) μ n Q := x_callV (k' := 85) (as := [.int x0]) (na := 1) d105_45 ⟨w832, by decide +kernel, by decide, by decide, by decide, by decide, by decide⟩ cf9 w829 w831 wp24 (by decide +kernel) rfl hs (fun v hv => by
    simp only [List.mem_cons, List.not_mem_nil, or_false] at hv
    rcases hv with rfl <;> first | rfl | assumption) hst h
theorem s105_48 {S : Nat × (Nat → Int32)} {L : List (Option Value)} {st : List Value} {n : Nat} {Q : xQ} {μ : xM} {x : Int32} (h : Q (.inl (some (.int x))) μ n) : x_V S 105 48 L (.int x :: []) μ n Q := x_ireturn d105_48 rfl rfl h
theorem s105_49 {S : Nat × (Nat → Int32)} {L : List (Option Value)} {st : List Value} {n : Nat} {Q : xQ} {μ : xM} {a : Nat} (hl : L[0]? = some (some (.ref a))) (h : x_V S 105 50 L (.ref a :: st) μ n Q) : x_V S 105 49 L (st) μ n Q := x_aload_n d105_49 hl h
theorem s105_49N {S : Nat × (Nat → Int32)} {L : List (Option Value)} {st : List Value} {n : Nat} {Q : xQ} {μ : xM} (hl : L[0]? = some (some .null)) (h : x_V S 105 50 L (.null :: st) μ n Q) : x_V S 105 49 L st μ n Q := x_aload_nN d105_49 hl h
theorem s105_50 {S : Nat × (Nat → Int32)} {L : List (Option Value)} {st : List Value} {n : Nat} {Q : xQ} {μ : xM}  (h : x_V S 105 51 L (.int (I 1) :: st) μ n Q) : x_V S 105 50 L (st) μ n Q := x_iconst (by decide +kernel) d105_50 h
theorem s105_51 {S : Nat × (Nat → Int32)} {L : List (Option Value)} {st : List Value} {n : Nat} {Q : xQ} {g : Nat → Nat → Int} {a : Nat} {x : Int} (hs : x_sh a = (9, 39)) (hx : x = 0 ∨ x = 1) (hp : x_pt a 1 = none) (ha : a ≠ x_out) (h : x_V S 105 54 L (st) (x_vm (x_uf g a 1 x)) n Q) : x_V S 105 51 L (.int (I x) :: .ref a :: st) (x_vm g) n Q := v_putz (i := 1) cf9 d105_51 (by decide) rfl w696 hs rfl hx hp ha h
theorem s105_54 {S : Nat × (Nat → Int32)} {L : List (Option Value)} {st : List Value} {n : Nat} {Q : xQ} {μ : xM} {a : Nat} (hl : L[0]? = some (some (.ref a))) (h : x_V S 105 55 L (.ref a :: st) μ n Q) : x_V S 105 54 L (st) μ n Q := x_aload_n d105_54 hl h
theorem s105_54N {S : Nat × (Nat → Int32)} {L : List (Option Value)} {st : List Value} {n : Nat} {Q : xQ} {μ : xM} (hl : L[0]? = some (some .null)) (h : x_V S 105 55 L (.null :: st) μ n Q) : x_V S 105 54 L st μ n Q := x_aload_nN d105_54 hl h
theorem s105_55 {S : Nat × (Nat → Int32)} {L : List (Option Value)} {st : List Value} {n : Nat} {Q : xQ} {g : Nat → Nat → Int} {a : Nat} {v : Value} (hs : x_sh a = (9, 39)) (hp : x_pt a 3 = some v) (h : x_V S 105 58 L (v :: st) (x_vm g) n Q) : x_V S 105 55 L (.ref a :: st) (x_vm g) n Q := v_getp (i := 3) cf9 d105_55 (by decide) w698 hs hp h
theorem s105_58 {S : Nat × (Nat → Int32)} {L : List (Option Value)} {st : List Value} {n : Nat} {Q : xQ} {μ : xM} {x : Int32} (hl : L[2]? = some (some (.int x))) (h : x_V S 105 59 L (.int x :: st) μ n Q) : x_V S 105 58 L (st) μ n Q := x_iload_n d105_58 hl h
theorem s105_59 {S : Nat × (Nat → Int32)} {L : List (Option Value)} {st : List Value} {n : Nat} {Q : xQ} {μ : xM} {x : Int32} (hl : L[1]? = some (some (.int x))) (h : x_V S 105 60 L (.int x :: st) μ n Q) : x_V S 105 59 L (st) μ n Q := x_iload_n d105_59 hl h
theorem s105_61 {S : Nat × (Nat → Int32)} {L : List (Option Value)} {st : List Value} {n : Nat} {Q : xQ} {μ : xM} {a : Nat} (hl : L[0]? = some (some (.ref a))) (h : x_V S 105 62 L (.ref a :: st) μ n Q) : x_V S 105 61 L (st) μ n Q := x_aload_n d105_61 hl h
theorem s105_61N {S : Nat × (Nat → Int32)} {L : List (Option Value)} {st : List Value} {n : Nat} {Q : xQ} {μ : xM} (hl : L[0]? = some (some .null)) (h : x_V S 105 62 L (.null :: st) μ n Q) : x_V S 105 61 L st μ n Q := x_aload_nN d105_61 hl h
theorem s105_62 {S : Nat × (Nat → Int32)} {L : List (Option Value)} {st : List Value} {n : Nat} {Q : xQ} {μ : xM} {x : Int32} (hl : L[2]? = some (some (.int x))) (h : x_V S 105 63 L (.int x :: st) μ n Q) : x_V S 105 62 L (st) μ n Q := x_iload_n d105_62 hl h
theorem s105_63 {S : Nat × (Nat → Int32)} {L : List (Option Value)} {st : List Value} {n : Nat} {Q : xQ} {μ : xM}  (h : x_V S 105 64 L (.int (I 1) :: st) μ n Q) : x_V S 105 63 L (st) μ n Q := x_iconst (by decide +kernel) d105_63 h
theorem s105_64 {S : Nat × (Nat → Int32)} {L : List (Option Value)} {st : List Value} {n : Nat} {Q : xQ} {μ : xM} {x y : Int} (h : x_V S 105 65 L (.int (I (x + y)) :: st) μ n Q) : x_V S 105 64 L (.int (I y) :: .int (I x) :: st) μ n Q := v_iadd d105_64 h
theorem s105_65 {S : Nat × (Nat → Int32)} {L : List (Option Value)} {st : List Value} {n : Nat} {Q : xQ} {g : Nat → Nat → Int} {a : Nat} {x : Int} (hs : x_sh a = (9, 39)) (hp : x_pt a 2 = none) (ha : a ≠ x_out) (h : x_V S 105 68 L (st) (x_vm (x_uf g a 2 x)) n Q) : x_V S 105 65 L (.int (I x) :: .ref a :: st) (x_vm g) n Q := v_put (i := 2) cf9 d105_65 (by decide) rfl w697 hs rfl hp ha h
theorem s105_68 {S : Nat × (Nat → Int32)} {L : List (Option Value)} {st : List Value} {n : Nat} {Q : xQ} {μ : xM} {a : Nat} (hl : L[0]? = some (some (.ref a))) (h : x_V S 105 69 L (.ref a :: st) μ n Q) : x_V S 105 68 L (st) μ n Q := x_aload_n d105_68 hl h
theorem s105_68N {S : Nat × (Nat → Int32)} {L : List (Option Value)} {st : List Value} {n : Nat} {Q : xQ} {μ : xM} (hl : L[0]? = some (some .null)) (h : x_V S 105 69 L (.null :: st) μ n Q) : x_V S 105 68 L st μ n Q := x_aload_nN d105_68 hl h
theorem s105_69 {S : Nat × (Nat → Int32)} {L : List (Option Value)} {st : List Value} {n : Nat} {Q : xQ} {μ : xM}  (h : x_V S 105 70 L (.int (I 0) :: st) μ n Q) : x_V S 105 69 L (st) μ n Q := x_iconst (by decide +kernel) d105_69 h
theorem s105_70 {S : Nat × (Nat → Int32)} {L : List (Option Value)} {st : List Value} {n : Nat} {Q : xQ} {g : Nat → Nat → Int} {a : Nat} {x : Int} (hs : x_sh a = (9, 39)) (hp : x_pt a 15 = none) (ha : a ≠ x_out) (h : x_V S 105 73 L (st) (x_vm (x_uf g a 15 x)) n Q) : x_V S 105 70 L (.int (I x) :: .ref a :: st) (x_vm g) n Q := v_put (i := 15) cf9 d105_70 (by decide) rfl w710 hs rfl hp ha h
theorem s105_73 {S : Nat × (Nat → Int32)} {L : List (Option Value)} {st : List Value} {n : Nat} {Q : xQ} {μ : xM} {a : Nat} (hl : L[0]? = some (some (.ref a))) (h : x_V S 105 74 L (.ref a :: st) μ n Q) : x_V S 105 73 L (st) μ n Q := x_aload_n d105_73 hl h
theorem s105_73N {S : Nat × (Nat → Int32)} {L : List (Option Value)} {st : List Value} {n : Nat} {Q : xQ} {μ : xM} (hl : L[0]? = some (some .null)) (h : x_V S 105 74 L (.null :: st) μ n Q) : x_V S 105 73 L st μ n Q := x_aload_nN d105_73 hl h
theorem s105_74 {S : Nat × (Nat → Int32)} {L : List (Option Value)} {st : List Value} {n : Nat} {Q : xQ} {g : Nat → Nat → Int} {a : Nat} (hs : x_sh a = (9, 39)) (hp : x_pt a 2 = none) (ha : a ≠ x_out) (h : x_V S 105 77 L (.int (I (g a 2)) :: st) (x_vm g) n Q) : x_V S 105 74 L (.ref a :: st) (x_vm g) n Q := v_get (i := 2) cf9 d105_74 (by decide) w697 hs hp ha h
theorem s105_77 {S : Nat × (Nat → Int32)} {L : List (Option Value)} {st : List Value} {n : Nat} {Q : xQ} {μ : xM} {x : Int32} (h : Q (.inl (some (.int x))) μ n) : x_V S 105 77 L (.int x :: []) μ n Q := x_ireturn d105_77 rfl rfl h
theorem mC_106 : mC 106 = prog_12_method_24_code := rfl
theorem d106_0 : decode (mC 106) 0 = .ok (.iload_n 0, 1) := by rw [mC_106]; decide +kernel
theorem d106_1 : decode (mC 106) 1 = .ok (.bipush 48, 2) := by rw [mC_106]; decide +kernel
theorem d106_3 : decode (mC 106) 3 = .ok (.if_icmp .lt 13, 3) := by rw [mC_106]; decide +kernel
theorem d106_6 : decode (mC 106) 6 = .ok (.iload_n 0, 1) := by rw [mC_106]; decide +kernel
theorem d106_7 : decode (mC 106) 7 = .ok (.bipush 57, 2) := by rw [mC_106]; decide +kernel
theorem d106_9 : decode (mC 106) 9 = .ok (.if_icmp .gt 7, 3) := by rw [mC_106]; decide +kernel
theorem d106_12 : decode (mC 106) 12 = .ok (.iconst 1, 1) := by rw [mC_106]; decide +kernel
theorem d106_13 : decode (mC 106) 13 = .ok (.goto 4, 3) := by rw [mC_106]; decide +kernel
theorem d106_16 : decode (mC 106) 16 = .ok (.iconst 0, 1) := by rw [mC_106]; decide +kernel
theorem d106_17 : decode (mC 106) 17 = .ok (.ireturn, 1) := by rw [mC_106]; decide +kernel
theorem s106_0 {S : Nat × (Nat → Int32)} {L : List (Option Value)} {st : List Value} {n : Nat} {Q : xQ} {μ : xM} {x : Int32} (hl : L[0]? = some (some (.int x))) (h : x_V S 106 1 L (.int x :: st) μ n Q) : x_V S 106 0 L (st) μ n Q := x_iload_n d106_0 hl h
theorem s106_1 {S : Nat × (Nat → Int32)} {L : List (Option Value)} {st : List Value} {n : Nat} {Q : xQ} {μ : xM}  (h : x_V S 106 3 L (.int (I 48) :: st) μ n Q) : x_V S 106 1 L (st) μ n Q := x_bipush (by decide +kernel) d106_1 h
theorem s106_3 {S : Nat × (Nat → Int32)} {L : List (Option Value)} {st : List Value} {n : Nat} {Q : xQ} {μ : xM} {x y : Int} (hx : ib x) (hy : ib y) (kt : x < y → x_V S 106 16 L (st) μ n Q) (kf : y ≤ x → x_V S 106 6 L (st) μ n Q) : x_V S 106 3 L (.int (I y) :: .int (I x) :: st) μ n Q := v_icmp_lt d106_3 (by decide) hx hy kt kf
theorem s106_6 {S : Nat × (Nat → Int32)} {L : List (Option Value)} {st : List Value} {n : Nat} {Q : xQ} {μ : xM} {x : Int32} (hl : L[0]? = some (some (.int x))) (h : x_V S 106 7 L (.int x :: st) μ n Q) : x_V S 106 6 L (st) μ n Q := x_iload_n d106_6 hl h
theorem s106_7 {S : Nat × (Nat → Int32)} {L : List (Option Value)} {st : List Value} {n : Nat} {Q : xQ} {μ : xM}  (h : x_V S 106 9 L (.int (I 57) :: st) μ n Q) : x_V S 106 7 L (st) μ n Q := x_bipush (by decide +kernel) d106_7 h
theorem s106_9 {S : Nat × (Nat → Int32)} {L : List (Option Value)} {st : List Value} {n : Nat} {Q : xQ} {μ : xM} {x y : Int} (hx : ib x) (hy : ib y) (kt : y < x → x_V S 106 16 L (st) μ n Q) (kf : x ≤ y → x_V S 106 12 L (st) μ n Q) : x_V S 106 9 L (.int (I y) :: .int (I x) :: st) μ n Q := v_icmp_gt d106_9 (by decide) hx hy kt kf
theorem s106_12 {S : Nat × (Nat → Int32)} {L : List (Option Value)} {st : List Value} {n : Nat} {Q : xQ} {μ : xM}  (h : x_V S 106 13 L (.int (I 1) :: st) μ n Q) : x_V S 106 12 L (st) μ n Q := x_iconst (by decide +kernel) d106_12 h
theorem s106_13 {S : Nat × (Nat → Int32)} {L : List (Option Value)} {st : List Value} {n : Nat} {Q : xQ} {μ : xM}  (h : x_V S 106 17 L (st) μ n Q) : x_V S 106 13 L (st) μ n Q := x_goto (tgt := 17) (by decide) d106_13 h
theorem s106_16 {S : Nat × (Nat → Int32)} {L : List (Option Value)} {st : List Value} {n : Nat} {Q : xQ} {μ : xM}  (h : x_V S 106 17 L (.int (I 0) :: st) μ n Q) : x_V S 106 16 L (st) μ n Q := x_iconst (by decide +kernel) d106_16 h
theorem s106_17 {S : Nat × (Nat → Int32)} {L : List (Option Value)} {st : List Value} {n : Nat} {Q : xQ} {μ : xM} {v : Int} (hv : v = 0 ∨ v = 1) (h : Q (.inl (some (.int (I v)))) μ n) : x_V S 106 17 L (.int (I v) :: []) μ n Q := v_zreturn d106_17 rfl hv h
theorem mC_107 : mC 107 = prog_12_method_25_code := rfl
theorem d107_0 : decode (mC 107) 0 = .ok (.aload_n 0, 1) := by rw [mC_107]; decide +kernel
theorem d107_1 : decode (mC 107) 1 = .ok (.iconst 0, 1) := by rw [mC_107]; decide +kernel
theorem d107_2 : decode (mC 107) 2 = .ok (.putfield 149, 3) := by rw [mC_107]; decide +kernel
theorem d107_5 : decode (mC 107) 5 = .ok (.iconst 0, 1) := by rw [mC_107]; decide +kernel
theorem d107_6 : decode (mC 107) 6 = .ok (.istore_n 1, 1) := by rw [mC_107]; decide +kernel
theorem d107_7 : decode (mC 107) 7 = .ok (.iload_n 1, 1) := by rw [mC_107]; decide +kernel
theorem d107_8 : decode (mC 107) 8 = .ok (.aload_n 0, 1) := by rw [mC_107]; decide +kernel
theorem d107_9 : decode (mC 107) 9 = .ok (.getfield 67, 3) := by rw [mC_107]; decide +kernel
theorem d107_12 : decode (mC 107) 12 = .ok (.if_icmp .ge 207, 3) := by rw [mC_107]; decide +kernel
theorem d107_15 : decode (mC 107) 15 = .ok (.iconst 0, 1) := by rw [mC_107]; decide +kernel
theorem d107_16 : decode (mC 107) 16 = .ok (.istore_n 2, 1) := by rw [mC_107]; decide +kernel
theorem d107_17 : decode (mC 107) 17 = .ok (.iload_n 1, 1) := by rw [mC_107]; decide +kernel
theorem d107_18 : decode (mC 107) 18 = .ok (.istore_n 3, 1) := by rw [mC_107]; decide +kernel
theorem d107_19 : decode (mC 107) 19 = .ok (.iload_n 1, 1) := by rw [mC_107]; decide +kernel
theorem d107_20 : decode (mC 107) 20 = .ok (.aload_n 0, 1) := by rw [mC_107]; decide +kernel
theorem d107_21 : decode (mC 107) 21 = .ok (.getfield 67, 3) := by rw [mC_107]; decide +kernel
theorem d107_24 : decode (mC 107) 24 = .ok (.if_icmp .ge 43, 3) := by rw [mC_107]; decide +kernel
theorem d107_27 : decode (mC 107) 27 = .ok (.aload_n 0, 1) := by rw [mC_107]; decide +kernel
theorem d107_28 : decode (mC 107) 28 = .ok (.getfield 7, 3) := by rw [mC_107]; decide +kernel
theorem d107_31 : decode (mC 107) 31 = .ok (.iload_n 1, 1) := by rw [mC_107]; decide +kernel
theorem d107_32 : decode (mC 107) 32 = .ok (.iaload, 1) := by rw [mC_107]; decide +kernel
theorem d107_33 : decode (mC 107) 33 = .ok (.invokestatic 152, 3) := by rw [mC_107]; decide +kernel
theorem d107_36 : decode (mC 107) 36 = .ok (.ifCond .eq 31, 3) := by rw [mC_107]; decide +kernel
theorem d107_39 : decode (mC 107) 39 = .ok (.iload_n 1, 1) := by rw [mC_107]; decide +kernel
theorem d107_40 : decode (mC 107) 40 = .ok (.iload_n 3, 1) := by rw [mC_107]; decide +kernel
theorem d107_41 : decode (mC 107) 41 = .ok (.isub, 1) := by rw [mC_107]; decide +kernel
theorem d107_42 : decode (mC 107) 42 = .ok (.iconst 4, 1) := by rw [mC_107]; decide +kernel
theorem d107_43 : decode (mC 107) 43 = .ok (.if_icmp .ge 24, 3) := by rw [mC_107]; decide +kernel
theorem d107_46 : decode (mC 107) 46 = .ok (.bipush 10, 2) := by rw [mC_107]; decide +kernel
theorem d107_48 : decode (mC 107) 48 = .ok (.iload_n 2, 1) := by rw [mC_107]; decide +kernel
theorem d107_49 : decode (mC 107) 49 = .ok (.imul, 1) := by rw [mC_107]; decide +kernel
theorem d107_50 : decode (mC 107) 50 = .ok (.aload_n 0, 1) := by rw [mC_107]; decide +kernel
theorem d107_51 : decode (mC 107) 51 = .ok (.getfield 7, 3) := by rw [mC_107]; decide +kernel
theorem d107_54 : decode (mC 107) 54 = .ok (.iload_n 1, 1) := by rw [mC_107]; decide +kernel
theorem d107_55 : decode (mC 107) 55 = .ok (.iaload, 1) := by rw [mC_107]; decide +kernel
theorem d107_56 : decode (mC 107) 56 = .ok (.iadd, 1) := by rw [mC_107]; decide +kernel
theorem d107_57 : decode (mC 107) 57 = .ok (.bipush 48, 2) := by rw [mC_107]; decide +kernel
theorem d107_59 : decode (mC 107) 59 = .ok (.isub, 1) := by rw [mC_107]; decide +kernel
theorem d107_60 : decode (mC 107) 60 = .ok (.istore_n 2, 1) := by rw [mC_107]; decide +kernel
theorem d107_61 : decode (mC 107) 61 = .ok (.iinc 1 1, 3) := by rw [mC_107]; decide +kernel
theorem d107_64 : decode (mC 107) 64 = .ok (.goto (-45), 3) := by rw [mC_107]; decide +kernel
theorem d107_67 : decode (mC 107) 67 = .ok (.iload_n 1, 1) := by rw [mC_107]; decide +kernel
theorem d107_68 : decode (mC 107) 68 = .ok (.iload_n 3, 1) := by rw [mC_107]; decide +kernel
theorem d107_69 : decode (mC 107) 69 = .ok (.if_icmp .eq 33, 3) := by rw [mC_107]; decide +kernel
theorem d107_72 : decode (mC 107) 72 = .ok (.aload_n 0, 1) := by rw [mC_107]; decide +kernel
theorem d107_73 : decode (mC 107) 73 = .ok (.getfield 7, 3) := by rw [mC_107]; decide +kernel
theorem d107_76 : decode (mC 107) 76 = .ok (.iload_n 3, 1) := by rw [mC_107]; decide +kernel
theorem d107_77 : decode (mC 107) 77 = .ok (.iaload, 1) := by rw [mC_107]; decide +kernel
theorem d107_78 : decode (mC 107) 78 = .ok (.bipush 48, 2) := by rw [mC_107]; decide +kernel
theorem d107_80 : decode (mC 107) 80 = .ok (.if_icmp .eq 22, 3) := by rw [mC_107]; decide +kernel
theorem d107_83 : decode (mC 107) 83 = .ok (.iload_n 1, 1) := by rw [mC_107]; decide +kernel
theorem d107_84 : decode (mC 107) 84 = .ok (.aload_n 0, 1) := by rw [mC_107]; decide +kernel
theorem d107_85 : decode (mC 107) 85 = .ok (.getfield 67, 3) := by rw [mC_107]; decide +kernel
theorem d107_88 : decode (mC 107) 88 = .ok (.if_icmp .eq 14, 3) := by rw [mC_107]; decide +kernel
theorem d107_91 : decode (mC 107) 91 = .ok (.aload_n 0, 1) := by rw [mC_107]; decide +kernel
theorem d107_92 : decode (mC 107) 92 = .ok (.getfield 7, 3) := by rw [mC_107]; decide +kernel
theorem d107_95 : decode (mC 107) 95 = .ok (.iload_n 1, 1) := by rw [mC_107]; decide +kernel
theorem d107_96 : decode (mC 107) 96 = .ok (.iaload, 1) := by rw [mC_107]; decide +kernel
theorem d107_97 : decode (mC 107) 97 = .ok (.bipush 61, 2) := by rw [mC_107]; decide +kernel
theorem d107_99 : decode (mC 107) 99 = .ok (.if_icmp .eq 5, 3) := by rw [mC_107]; decide +kernel
theorem d107_102 : decode (mC 107) 102 = .ok (.iconst 0, 1) := by rw [mC_107]; decide +kernel
theorem d107_103 : decode (mC 107) 103 = .ok (.ireturn, 1) := by rw [mC_107]; decide +kernel
theorem d107_104 : decode (mC 107) 104 = .ok (.iinc 1 1, 3) := by rw [mC_107]; decide +kernel
theorem d107_107 : decode (mC 107) 107 = .ok (.iload_n 1, 1) := by rw [mC_107]; decide +kernel
theorem d107_108 : decode (mC 107) 108 = .ok (.istore 4, 2) := by rw [mC_107]; decide +kernel
theorem d107_110 : decode (mC 107) 110 = .ok (.iload_n 1, 1) := by rw [mC_107]; decide +kernel
theorem d107_111 : decode (mC 107) 111 = .ok (.aload_n 0, 1) := by rw [mC_107]; decide +kernel
theorem d107_112 : decode (mC 107) 112 = .ok (.getfield 67, 3) := by rw [mC_107]; decide +kernel
theorem d107_115 : decode (mC 107) 115 = .ok (.if_icmp .ge 31, 3) := by rw [mC_107]; decide +kernel
theorem d107_118 : decode (mC 107) 118 = .ok (.aload_n 0, 1) := by rw [mC_107]; decide +kernel
theorem d107_119 : decode (mC 107) 119 = .ok (.getfield 7, 3) := by rw [mC_107]; decide +kernel
theorem d107_122 : decode (mC 107) 122 = .ok (.iload_n 1, 1) := by rw [mC_107]; decide +kernel
theorem d107_123 : decode (mC 107) 123 = .ok (.iaload, 1) := by rw [mC_107]; decide +kernel
theorem d107_124 : decode (mC 107) 124 = .ok (.bipush 33, 2) := by rw [mC_107]; decide +kernel
theorem d107_126 : decode (mC 107) 126 = .ok (.if_icmp .lt 20, 3) := by rw [mC_107]; decide +kernel
theorem d107_129 : decode (mC 107) 129 = .ok (.aload_n 0, 1) := by rw [mC_107]; decide +kernel
theorem d107_130 : decode (mC 107) 130 = .ok (.getfield 7, 3) := by rw [mC_107]; decide +kernel
theorem d107_133 : decode (mC 107) 133 = .ok (.iload_n 1, 1) := by rw [mC_107]; decide +kernel
theorem d107_134 : decode (mC 107) 134 = .ok (.iaload, 1) := by rw [mC_107]; decide +kernel
theorem d107_135 : decode (mC 107) 135 = .ok (.bipush 126, 2) := by rw [mC_107]; decide +kernel
theorem d107_137 : decode (mC 107) 137 = .ok (.if_icmp .gt 9, 3) := by rw [mC_107]; decide +kernel
theorem d107_140 : decode (mC 107) 140 = .ok (.iinc 1 1, 3) := by rw [mC_107]; decide +kernel
theorem d107_143 : decode (mC 107) 143 = .ok (.goto (-33), 3) := by rw [mC_107]; decide +kernel
theorem d107_146 : decode (mC 107) 146 = .ok (.iload_n 1, 1) := by rw [mC_107]; decide +kernel
theorem d107_147 : decode (mC 107) 147 = .ok (.aload_n 0, 1) := by rw [mC_107]; decide +kernel
theorem d107_148 : decode (mC 107) 148 = .ok (.getfield 67, 3) := by rw [mC_107]; decide +kernel
theorem d107_151 : decode (mC 107) 151 = .ok (.if_icmp .eq 19, 3) := by rw [mC_107]; decide +kernel
theorem d107_154 : decode (mC 107) 154 = .ok (.aload_n 0, 1) := by rw [mC_107]; decide +kernel
theorem d107_155 : decode (mC 107) 155 = .ok (.getfield 7, 3) := by rw [mC_107]; decide +kernel
theorem d107_158 : decode (mC 107) 158 = .ok (.iload_n 1, 1) := by rw [mC_107]; decide +kernel
theorem d107_159 : decode (mC 107) 159 = .ok (.iaload, 1) := by rw [mC_107]; decide +kernel
theorem d107_160 : decode (mC 107) 160 = .ok (.iconst 1, 1) := by rw [mC_107]; decide +kernel
theorem d107_161 : decode (mC 107) 161 = .ok (.if_icmp .ne 9, 3) := by rw [mC_107]; decide +kernel
theorem d107_164 : decode (mC 107) 164 = .ok (.iload_n 1, 1) := by rw [mC_107]; decide +kernel
theorem d107_165 : decode (mC 107) 165 = .ok (.iload 4, 2) := by rw [mC_107]; decide +kernel
theorem d107_167 : decode (mC 107) 167 = .ok (.if_icmp .ne 5, 3) := by rw [mC_107]; decide +kernel
theorem d107_170 : decode (mC 107) 170 = .ok (.iconst 0, 1) := by rw [mC_107]; decide +kernel
theorem d107_171 : decode (mC 107) 171 = .ok (.ireturn, 1) := by rw [mC_107]; decide +kernel
theorem d107_172 : decode (mC 107) 172 = .ok (.aload_n 0, 1) := by rw [mC_107]; decide +kernel
theorem d107_173 : decode (mC 107) 173 = .ok (.getfield 13, 3) := by rw [mC_107]; decide +kernel
theorem d107_176 : decode (mC 107) 176 = .ok (.aload_n 0, 1) := by rw [mC_107]; decide +kernel
theorem d107_177 : decode (mC 107) 177 = .ok (.getfield 149, 3) := by rw [mC_107]; decide +kernel
theorem d107_180 : decode (mC 107) 180 = .ok (.iload_n 2, 1) := by rw [mC_107]; decide +kernel
theorem d107_181 : decode (mC 107) 181 = .ok (.iastore, 1) := by rw [mC_107]; decide +kernel
theorem d107_182 : decode (mC 107) 182 = .ok (.aload_n 0, 1) := by rw [mC_107]; decide +kernel
theorem d107_183 : decode (mC 107) 183 = .ok (.getfield 16, 3) := by rw [mC_107]; decide +kernel
theorem d107_186 : decode (mC 107) 186 = .ok (.aload_n 0, 1) := by rw [mC_107]; decide +kernel
theorem d107_187 : decode (mC 107) 187 = .ok (.getfield 149, 3) := by rw [mC_107]; decide +kernel
theorem d107_190 : decode (mC 107) 190 = .ok (.iload 4, 2) := by rw [mC_107]; decide +kernel
theorem d107_192 : decode (mC 107) 192 = .ok (.iastore, 1) := by rw [mC_107]; decide +kernel
theorem d107_193 : decode (mC 107) 193 = .ok (.aload_n 0, 1) := by rw [mC_107]; decide +kernel
theorem d107_194 : decode (mC 107) 194 = .ok (.getfield 19, 3) := by rw [mC_107]; decide +kernel
theorem d107_197 : decode (mC 107) 197 = .ok (.aload_n 0, 1) := by rw [mC_107]; decide +kernel
theorem d107_198 : decode (mC 107) 198 = .ok (.getfield 149, 3) := by rw [mC_107]; decide +kernel
theorem d107_201 : decode (mC 107) 201 = .ok (.iload_n 1, 1) := by rw [mC_107]; decide +kernel
theorem d107_202 : decode (mC 107) 202 = .ok (.iastore, 1) := by rw [mC_107]; decide +kernel
theorem d107_203 : decode (mC 107) 203 = .ok (.aload_n 0, 1) := by rw [mC_107]; decide +kernel
theorem d107_204 : decode (mC 107) 204 = .ok (.dup, 1) := by rw [mC_107]; decide +kernel
theorem d107_205 : decode (mC 107) 205 = .ok (.getfield 149, 3) := by rw [mC_107]; decide +kernel
theorem d107_208 : decode (mC 107) 208 = .ok (.iconst 1, 1) := by rw [mC_107]; decide +kernel
theorem d107_209 : decode (mC 107) 209 = .ok (.iadd, 1) := by rw [mC_107]; decide +kernel
theorem d107_210 : decode (mC 107) 210 = .ok (.putfield 149, 3) := by rw [mC_107]; decide +kernel
theorem d107_213 : decode (mC 107) 213 = .ok (.iinc 1 1, 3) := by rw [mC_107]; decide +kernel
theorem d107_216 : decode (mC 107) 216 = .ok (.goto (-209), 3) := by rw [mC_107]; decide +kernel
theorem d107_219 : decode (mC 107) 219 = .ok (.iconst 1, 1) := by rw [mC_107]; decide +kernel
theorem d107_220 : decode (mC 107) 220 = .ok (.ireturn, 1) := by rw [mC_107]; decide +kernel
theorem s107_0 {S : Nat × (Nat → Int32)} {L : List (Option Value)} {st : List Value} {n : Nat} {Q : xQ} {μ : xM} {a : Nat} (hl : L[0]? = some (some (.ref a))) (h : x_V S 107 1 L (.ref a :: st) μ n Q) : x_V S 107 0 L (st) μ n Q := x_aload_n d107_0 hl h
theorem s107_0N {S : Nat × (Nat → Int32)} {L : List (Option Value)} {st : List Value} {n : Nat} {Q : xQ} {μ : xM} (hl : L[0]? = some (some .null)) (h : x_V S 107 1 L (.null :: st) μ n Q) : x_V S 107 0 L st μ n Q := x_aload_nN d107_0 hl h
theorem s107_1 {S : Nat × (Nat → Int32)} {L : List (Option Value)} {st : List Value} {n : Nat} {Q : xQ} {μ : xM}  (h : x_V S 107 2 L (.int (I 0) :: st) μ n Q) : x_V S 107 1 L (st) μ n Q := x_iconst (by decide +kernel) d107_1 h
theorem s107_2 {S : Nat × (Nat → Int32)} {L : List (Option Value)} {st : List Value} {n : Nat} {Q : xQ} {g : Nat → Nat → Int} {a : Nat} {x : Int} (hs : x_sh a = (9, 39)) (hp : x_pt a 4 = none) (ha : a ≠ x_out) (h : x_V S 107 5 L (st) (x_vm (x_uf g a 4 x)) n Q) : x_V S 107 2 L (.int (I x) :: .ref a :: st) (x_vm g) n Q := v_put (i := 4) cf9 d107_2 (by decide) rfl w699 hs rfl hp ha h
theorem s107_5 {S : Nat × (Nat → Int32)} {L : List (Option Value)} {st : List Value} {n : Nat} {Q : xQ} {μ : xM}  (h : x_V S 107 6 L (.int (I 0) :: st) μ n Q) : x_V S 107 5 L (st) μ n Q := x_iconst (by decide +kernel) d107_5 h
theorem s107_6 {S : Nat × (Nat → Int32)} {L : List (Option Value)} {st : List Value} {n : Nat} {Q : xQ} {μ : xM} {x : Int32} (h : x_V S 107 7 (L.set 1 (some (.int x))) (st) μ n Q) : x_V S 107 6 L (.int x :: st) μ n Q := x_istore_n d107_6 (by decide) h
theorem s107_7 {S : Nat × (Nat → Int32)} {L : List (Option Value)} {st : List Value} {n : Nat} {Q : xQ} {μ : xM} {x : Int32} (hl : L[1]? = some (some (.int x))) (h : x_V S 107 8 L (.int x :: st) μ n Q) : x_V S 107 7 L (st) μ n Q := x_iload_n d107_7 hl h
theorem s107_8 {S : Nat × (Nat → Int32)} {L : List (Option Value)} {st : List Value} {n : Nat} {Q : xQ} {μ : xM} {a : Nat} (hl : L[0]? = some (some (.ref a))) (h : x_V S 107 9 L (.ref a :: st) μ n Q) : x_V S 107 8 L (st) μ n Q := x_aload_n d107_8 hl h
theorem s107_8N {S : Nat × (Nat → Int32)} {L : List (Option Value)} {st : List Value} {n : Nat} {Q : xQ} {μ : xM} (hl : L[0]? = some (some .null)) (h : x_V S 107 9 L (.null :: st) μ n Q) : x_V S 107 8 L st μ n Q := x_aload_nN d107_8 hl h
theorem s107_9 {S : Nat × (Nat → Int32)} {L : List (Option Value)} {st : List Value} {n : Nat} {Q : xQ} {g : Nat → Nat → Int} {a : Nat} (hs : x_sh a = (9, 39)) (hp : x_pt a 2 = none) (ha : a ≠ x_out) (h : x_V S 107 12 L (.int (I (g a 2)) :: st) (x_vm g) n Q) : x_V S 107 9 L (.ref a :: st) (x_vm g) n Q := v_get (i := 2) cf9 d107_9 (by decide) w697 hs hp ha h
theorem s107_12 {S : Nat × (Nat → Int32)} {L : List (Option Value)} {st : List Value} {n : Nat} {Q : xQ} {μ : xM} {x y : Int} (hx : ib x) (hy : ib y) (kt : y ≤ x → x_V S 107 219 L (st) μ n Q) (kf : x < y → x_V S 107 15 L (st) μ n Q) : x_V S 107 12 L (.int (I y) :: .int (I x) :: st) μ n Q := v_icmp_ge d107_12 (by decide) hx hy kt kf
theorem s107_15 {S : Nat × (Nat → Int32)} {L : List (Option Value)} {st : List Value} {n : Nat} {Q : xQ} {μ : xM}  (h : x_V S 107 16 L (.int (I 0) :: st) μ n Q) : x_V S 107 15 L (st) μ n Q := x_iconst (by decide +kernel) d107_15 h
theorem s107_16 {S : Nat × (Nat → Int32)} {L : List (Option Value)} {st : List Value} {n : Nat} {Q : xQ} {μ : xM} {x : Int32} (h : x_V S 107 17 (L.set 2 (some (.int x))) (st) μ n Q) : x_V S 107 16 L (.int x :: st) μ n Q := x_istore_n d107_16 (by decide) h
theorem s107_17 {S : Nat × (Nat → Int32)} {L : List (Option Value)} {st : List Value} {n : Nat} {Q : xQ} {μ : xM} {x : Int32} (hl : L[1]? = some (some (.int x))) (h : x_V S 107 18 L (.int x :: st) μ n Q) : x_V S 107 17 L (st) μ n Q := x_iload_n d107_17 hl h
theorem s107_18 {S : Nat × (Nat → Int32)} {L : List (Option Value)} {st : List Value} {n : Nat} {Q : xQ} {μ : xM} {x : Int32} (h : x_V S 107 19 (L.set 3 (some (.int x))) (st) μ n Q) : x_V S 107 18 L (.int x :: st) μ n Q := x_istore_n d107_18 (by decide) h
theorem s107_19 {S : Nat × (Nat → Int32)} {L : List (Option Value)} {st : List Value} {n : Nat} {Q : xQ} {μ : xM} {x : Int32} (hl : L[1]? = some (some (.int x))) (h : x_V S 107 20 L (.int x :: st) μ n Q) : x_V S 107 19 L (st) μ n Q := x_iload_n d107_19 hl h
theorem s107_20 {S : Nat × (Nat → Int32)} {L : List (Option Value)} {st : List Value} {n : Nat} {Q : xQ} {μ : xM} {a : Nat} (hl : L[0]? = some (some (.ref a))) (h : x_V S 107 21 L (.ref a :: st) μ n Q) : x_V S 107 20 L (st) μ n Q := x_aload_n d107_20 hl h
theorem s107_20N {S : Nat × (Nat → Int32)} {L : List (Option Value)} {st : List Value} {n : Nat} {Q : xQ} {μ : xM} (hl : L[0]? = some (some .null)) (h : x_V S 107 21 L (.null :: st) μ n Q) : x_V S 107 20 L st μ n Q := x_aload_nN d107_20 hl h
theorem s107_21 {S : Nat × (Nat → Int32)} {L : List (Option Value)} {st : List Value} {n : Nat} {Q : xQ} {g : Nat → Nat → Int} {a : Nat} (hs : x_sh a = (9, 39)) (hp : x_pt a 2 = none) (ha : a ≠ x_out) (h : x_V S 107 24 L (.int (I (g a 2)) :: st) (x_vm g) n Q) : x_V S 107 21 L (.ref a :: st) (x_vm g) n Q := v_get (i := 2) cf9 d107_21 (by decide) w697 hs hp ha h
theorem s107_24 {S : Nat × (Nat → Int32)} {L : List (Option Value)} {st : List Value} {n : Nat} {Q : xQ} {μ : xM} {x y : Int} (hx : ib x) (hy : ib y) (kt : y ≤ x → x_V S 107 67 L (st) μ n Q) (kf : x < y → x_V S 107 27 L (st) μ n Q) : x_V S 107 24 L (.int (I y) :: .int (I x) :: st) μ n Q := v_icmp_ge d107_24 (by decide) hx hy kt kf
theorem s107_27 {S : Nat × (Nat → Int32)} {L : List (Option Value)} {st : List Value} {n : Nat} {Q : xQ} {μ : xM} {a : Nat} (hl : L[0]? = some (some (.ref a))) (h : x_V S 107 28 L (.ref a :: st) μ n Q) : x_V S 107 27 L (st) μ n Q := x_aload_n d107_27 hl h
theorem s107_27N {S : Nat × (Nat → Int32)} {L : List (Option Value)} {st : List Value} {n : Nat} {Q : xQ} {μ : xM} (hl : L[0]? = some (some .null)) (h : x_V S 107 28 L (.null :: st) μ n Q) : x_V S 107 27 L st μ n Q := x_aload_nN d107_27 hl h
theorem s107_28 {S : Nat × (Nat → Int32)} {L : List (Option Value)} {st : List Value} {n : Nat} {Q : xQ} {g : Nat → Nat → Int} {a : Nat} {v : Value} (hs : x_sh a = (9, 39)) (hp : x_pt a 3 = some v) (h : x_V S 107 31 L (v :: st) (x_vm g) n Q) : x_V S 107 28 L (.ref a :: st) (x_vm g) n Q := v_getp (i := 3) cf9 d107_28 (by decide) w698 hs hp h
theorem s107_31 {S : Nat × (Nat → Int32)} {L : List (Option Value)} {st : List Value} {n : Nat} {Q : xQ} {μ : xM} {x : Int32} (hl : L[1]? = some (some (.int x))) (h : x_V S 107 32 L (.int x :: st) μ n Q) : x_V S 107 31 L (st) μ n Q := x_iload_n d107_31 hl h
theorem s107_33 {S : Nat × (Nat → Int32)} {L : List (Option Value)} {st : List Value} {n : Nat} {Q : xQ} {μ : xM} {x0 : Int32} (hst : st.length ≤ 4) (h : x_V S 106 0 [some (.int x0)] [] μ n (x_bk S 107 33 L st Q)) : x_V S 107 33 L (.int x0 :: st) μ n Q := x_callS (k' := 106) (as := [.int x0]) (na := 1) d107_33 ⟨w896, by decide +kernel, by decide, by decide, by decide, by decide, by decide⟩ w894 w895 w10 (by decide +kernel) rfl (fun v hv => by
    simp only [List.mem_cons, List.not_mem_nil, or_false] at hv
    rcases hv with rfl <;> first | rfl | assumption) hst h
theorem s107_36 {S : Nat × (Nat → Int32)} {L : List (Option Value)} {st : List Value} {n : Nat} {Q : xQ} {μ : xM} {x : Int} (hx : ib x) (kt : x = 0 → x_V S 107 67 L (st) μ n Q) (kf : x ≠ 0 → x_V S 107 39 L (st) μ n Q) : x_V S 107 36 L (.int (I x) :: st) μ n Q := v_if_eq d107_36 (by decide) hx kt kf
theorem s107_39 {S : Nat × (Nat → Int32)} {L : List (Option Value)} {st : List Value} {n : Nat} {Q : xQ} {μ : xM} {x : Int32} (hl : L[1]? = some (some (.int x))) (h : x_V S 107 40 L (.int x :: st) μ n Q) : x_V S 107 39 L (st) μ n Q := x_iload_n d107_39 hl h
theorem s107_40 {S : Nat × (Nat → Int32)} {L : List (Option Value)} {st : List Value} {n : Nat} {Q : xQ} {μ : xM} {x : Int32} (hl : L[3]? = some (some (.int x))) (h : x_V S 107 41 L (.int x :: st) μ n Q) : x_V S 107 40 L (st) μ n Q := x_iload_n d107_40 hl h
theorem s107_41 {S : Nat × (Nat → Int32)} {L : List (Option Value)} {st : List Value} {n : Nat} {Q : xQ} {μ : xM} {x y : Int} (h : x_V S 107 42 L (.int (I (x - y)) :: st) μ n Q) : x_V S 107 41 L (.int (I y) :: .int (I x) :: st) μ n Q := v_isub d107_41 h
theorem s107_42 {S : Nat × (Nat → Int32)} {L : List (Option Value)} {st : List Value} {n : Nat} {Q : xQ} {μ : xM}  (h : x_V S 107 43 L (.int (I 4) :: st) μ n Q) : x_V S 107 42 L (st) μ n Q := x_iconst (by decide +kernel) d107_42 h
theorem s107_43 {S : Nat × (Nat → Int32)} {L : List (Option Value)} {st : List Value} {n : Nat} {Q : xQ} {μ : xM} {x y : Int} (hx : ib x) (hy : ib y) (kt : y ≤ x → x_V S 107 67 L (st) μ n Q) (kf : x < y → x_V S 107 46 L (st) μ n Q) : x_V S 107 43 L (.int (I y) :: .int (I x) :: st) μ n Q := v_icmp_ge d107_43 (by decide) hx hy kt kf
theorem s107_46 {S : Nat × (Nat → Int32)} {L : List (Option Value)} {st : List Value} {n : Nat} {Q : xQ} {μ : xM}  (h : x_V S 107 48 L (.int (I 10) :: st) μ n Q) : x_V S 107 46 L (st) μ n Q := x_bipush (by decide +kernel) d107_46 h
theorem s107_48 {S : Nat × (Nat → Int32)} {L : List (Option Value)} {st : List Value} {n : Nat} {Q : xQ} {μ : xM} {x : Int32} (hl : L[2]? = some (some (.int x))) (h : x_V S 107 49 L (.int x :: st) μ n Q) : x_V S 107 48 L (st) μ n Q := x_iload_n d107_48 hl h
theorem s107_49 {S : Nat × (Nat → Int32)} {L : List (Option Value)} {st : List Value} {n : Nat} {Q : xQ} {μ : xM} {x y : Int} (h : x_V S 107 50 L (.int (I (x * y)) :: st) μ n Q) : x_V S 107 49 L (.int (I y) :: .int (I x) :: st) μ n Q := v_imul d107_49 h
theorem s107_50 {S : Nat × (Nat → Int32)} {L : List (Option Value)} {st : List Value} {n : Nat} {Q : xQ} {μ : xM} {a : Nat} (hl : L[0]? = some (some (.ref a))) (h : x_V S 107 51 L (.ref a :: st) μ n Q) : x_V S 107 50 L (st) μ n Q := x_aload_n d107_50 hl h
theorem s107_50N {S : Nat × (Nat → Int32)} {L : List (Option Value)} {st : List Value} {n : Nat} {Q : xQ} {μ : xM} (hl : L[0]? = some (some .null)) (h : x_V S 107 51 L (.null :: st) μ n Q) : x_V S 107 50 L st μ n Q := x_aload_nN d107_50 hl h
theorem s107_51 {S : Nat × (Nat → Int32)} {L : List (Option Value)} {st : List Value} {n : Nat} {Q : xQ} {g : Nat → Nat → Int} {a : Nat} {v : Value} (hs : x_sh a = (9, 39)) (hp : x_pt a 3 = some v) (h : x_V S 107 54 L (v :: st) (x_vm g) n Q) : x_V S 107 51 L (.ref a :: st) (x_vm g) n Q := v_getp (i := 3) cf9 d107_51 (by decide) w698 hs hp h
theorem s107_54 {S : Nat × (Nat → Int32)} {L : List (Option Value)} {st : List Value} {n : Nat} {Q : xQ} {μ : xM} {x : Int32} (hl : L[1]? = some (some (.int x))) (h : x_V S 107 55 L (.int x :: st) μ n Q) : x_V S 107 54 L (st) μ n Q := x_iload_n d107_54 hl h
theorem s107_56 {S : Nat × (Nat → Int32)} {L : List (Option Value)} {st : List Value} {n : Nat} {Q : xQ} {μ : xM} {x y : Int} (h : x_V S 107 57 L (.int (I (x + y)) :: st) μ n Q) : x_V S 107 56 L (.int (I y) :: .int (I x) :: st) μ n Q := v_iadd d107_56 h
theorem s107_57 {S : Nat × (Nat → Int32)} {L : List (Option Value)} {st : List Value} {n : Nat} {Q : xQ} {μ : xM}  (h : x_V S 107 59 L (.int (I 48) :: st) μ n Q) : x_V S 107 57 L (st) μ n Q := x_bipush (by decide +kernel) d107_57 h
theorem s107_59 {S : Nat × (Nat → Int32)} {L : List (Option Value)} {st : List Value} {n : Nat} {Q : xQ} {μ : xM} {x y : Int} (h : x_V S 107 60 L (.int (I (x - y)) :: st) μ n Q) : x_V S 107 59 L (.int (I y) :: .int (I x) :: st) μ n Q := v_isub d107_59 h
theorem s107_60 {S : Nat × (Nat → Int32)} {L : List (Option Value)} {st : List Value} {n : Nat} {Q : xQ} {μ : xM} {x : Int32} (h : x_V S 107 61 (L.set 2 (some (.int x))) (st) μ n Q) : x_V S 107 60 L (.int x :: st) μ n Q := x_istore_n d107_60 (by decide) h
theorem s107_61 {S : Nat × (Nat → Int32)} {L : List (Option Value)} {st : List Value} {n : Nat} {Q : xQ} {μ : xM} {x : Int} (hl : L[1]? = some (some (.int (I x)))) (h : x_V S 107 64 (L.set 1 (some (.int (I (x + 1))))) (st) μ n Q) : x_V S 107 61 L (st) μ n Q := v_iinc d107_61 hl (by decide) h
theorem s107_64 {S : Nat × (Nat → Int32)} {L : List (Option Value)} {st : List Value} {n : Nat} {Q : xQ} {μ : xM}  (h : x_V S 107 19 L (st) μ n Q) : x_V S 107 64 L (st) μ n Q := x_goto (tgt := 19) (by decide) d107_64 h
theorem s107_67 {S : Nat × (Nat → Int32)} {L : List (Option Value)} {st : List Value} {n : Nat} {Q : xQ} {μ : xM} {x : Int32} (hl : L[1]? = some (some (.int x))) (h : x_V S 107 68 L (.int x :: st) μ n Q) : x_V S 107 67 L (st) μ n Q := x_iload_n d107_67 hl h
theorem s107_68 {S : Nat × (Nat → Int32)} {L : List (Option Value)} {st : List Value} {n : Nat} {Q : xQ} {μ : xM} {x : Int32} (hl : L[3]? = some (some (.int x))) (h : x_V S 107 69 L (.int x :: st) μ n Q) : x_V S 107 68 L (st) μ n Q := x_iload_n d107_68 hl h
theorem s107_69 {S : Nat × (Nat → Int32)} {L : List (Option Value)} {st : List Value} {n : Nat} {Q : xQ} {μ : xM} {x y : Int} (hx : ib x) (hy : ib y) (kt : x = y → x_V S 107 102 L (st) μ n Q) (kf : x ≠ y → x_V S 107 72 L (st) μ n Q) : x_V S 107 69 L (.int (I y) :: .int (I x) :: st) μ n Q := v_icmp_eq d107_69 (by decide) hx hy kt kf
theorem s107_72 {S : Nat × (Nat → Int32)} {L : List (Option Value)} {st : List Value} {n : Nat} {Q : xQ} {μ : xM} {a : Nat} (hl : L[0]? = some (some (.ref a))) (h : x_V S 107 73 L (.ref a :: st) μ n Q) : x_V S 107 72 L (st) μ n Q := x_aload_n d107_72 hl h
theorem s107_72N {S : Nat × (Nat → Int32)} {L : List (Option Value)} {st : List Value} {n : Nat} {Q : xQ} {μ : xM} (hl : L[0]? = some (some .null)) (h : x_V S 107 73 L (.null :: st) μ n Q) : x_V S 107 72 L st μ n Q := x_aload_nN d107_72 hl h
theorem s107_73 {S : Nat × (Nat → Int32)} {L : List (Option Value)} {st : List Value} {n : Nat} {Q : xQ} {g : Nat → Nat → Int} {a : Nat} {v : Value} (hs : x_sh a = (9, 39)) (hp : x_pt a 3 = some v) (h : x_V S 107 76 L (v :: st) (x_vm g) n Q) : x_V S 107 73 L (.ref a :: st) (x_vm g) n Q := v_getp (i := 3) cf9 d107_73 (by decide) w698 hs hp h
theorem s107_76 {S : Nat × (Nat → Int32)} {L : List (Option Value)} {st : List Value} {n : Nat} {Q : xQ} {μ : xM} {x : Int32} (hl : L[3]? = some (some (.int x))) (h : x_V S 107 77 L (.int x :: st) μ n Q) : x_V S 107 76 L (st) μ n Q := x_iload_n d107_76 hl h
theorem s107_78 {S : Nat × (Nat → Int32)} {L : List (Option Value)} {st : List Value} {n : Nat} {Q : xQ} {μ : xM}  (h : x_V S 107 80 L (.int (I 48) :: st) μ n Q) : x_V S 107 78 L (st) μ n Q := x_bipush (by decide +kernel) d107_78 h
theorem s107_80 {S : Nat × (Nat → Int32)} {L : List (Option Value)} {st : List Value} {n : Nat} {Q : xQ} {μ : xM} {x y : Int} (hx : ib x) (hy : ib y) (kt : x = y → x_V S 107 102 L (st) μ n Q) (kf : x ≠ y → x_V S 107 83 L (st) μ n Q) : x_V S 107 80 L (.int (I y) :: .int (I x) :: st) μ n Q := v_icmp_eq d107_80 (by decide) hx hy kt kf
theorem s107_83 {S : Nat × (Nat → Int32)} {L : List (Option Value)} {st : List Value} {n : Nat} {Q : xQ} {μ : xM} {x : Int32} (hl : L[1]? = some (some (.int x))) (h : x_V S 107 84 L (.int x :: st) μ n Q) : x_V S 107 83 L (st) μ n Q := x_iload_n d107_83 hl h
theorem s107_84 {S : Nat × (Nat → Int32)} {L : List (Option Value)} {st : List Value} {n : Nat} {Q : xQ} {μ : xM} {a : Nat} (hl : L[0]? = some (some (.ref a))) (h : x_V S 107 85 L (.ref a :: st) μ n Q) : x_V S 107 84 L (st) μ n Q := x_aload_n d107_84 hl h
theorem s107_84N {S : Nat × (Nat → Int32)} {L : List (Option Value)} {st : List Value} {n : Nat} {Q : xQ} {μ : xM} (hl : L[0]? = some (some .null)) (h : x_V S 107 85 L (.null :: st) μ n Q) : x_V S 107 84 L st μ n Q := x_aload_nN d107_84 hl h
theorem s107_85 {S : Nat × (Nat → Int32)} {L : List (Option Value)} {st : List Value} {n : Nat} {Q : xQ} {g : Nat → Nat → Int} {a : Nat} (hs : x_sh a = (9, 39)) (hp : x_pt a 2 = none) (ha : a ≠ x_out) (h : x_V S 107 88 L (.int (I (g a 2)) :: st) (x_vm g) n Q) : x_V S 107 85 L (.ref a :: st) (x_vm g) n Q := v_get (i := 2) cf9 d107_85 (by decide) w697 hs hp ha h
theorem s107_88 {S : Nat × (Nat → Int32)} {L : List (Option Value)} {st : List Value} {n : Nat} {Q : xQ} {μ : xM} {x y : Int} (hx : ib x) (hy : ib y) (kt : x = y → x_V S 107 102 L (st) μ n Q) (kf : x ≠ y → x_V S 107 91 L (st) μ n Q) : x_V S 107 88 L (.int (I y) :: .int (I x) :: st) μ n Q := v_icmp_eq d107_88 (by decide) hx hy kt kf
theorem s107_91 {S : Nat × (Nat → Int32)} {L : List (Option Value)} {st : List Value} {n : Nat} {Q : xQ} {μ : xM} {a : Nat} (hl : L[0]? = some (some (.ref a))) (h : x_V S 107 92 L (.ref a :: st) μ n Q) : x_V S 107 91 L (st) μ n Q := x_aload_n d107_91 hl h
theorem s107_91N {S : Nat × (Nat → Int32)} {L : List (Option Value)} {st : List Value} {n : Nat} {Q : xQ} {μ : xM} (hl : L[0]? = some (some .null)) (h : x_V S 107 92 L (.null :: st) μ n Q) : x_V S 107 91 L st μ n Q := x_aload_nN d107_91 hl h
theorem s107_92 {S : Nat × (Nat → Int32)} {L : List (Option Value)} {st : List Value} {n : Nat} {Q : xQ} {g : Nat → Nat → Int} {a : Nat} {v : Value} (hs : x_sh a = (9, 39)) (hp : x_pt a 3 = some v) (h : x_V S 107 95 L (v :: st) (x_vm g) n Q) : x_V S 107 92 L (.ref a :: st) (x_vm g) n Q := v_getp (i := 3) cf9 d107_92 (by decide) w698 hs hp h
theorem s107_95 {S : Nat × (Nat → Int32)} {L : List (Option Value)} {st : List Value} {n : Nat} {Q : xQ} {μ : xM} {x : Int32} (hl : L[1]? = some (some (.int x))) (h : x_V S 107 96 L (.int x :: st) μ n Q) : x_V S 107 95 L (st) μ n Q := x_iload_n d107_95 hl h
theorem s107_97 {S : Nat × (Nat → Int32)} {L : List (Option Value)} {st : List Value} {n : Nat} {Q : xQ} {μ : xM}  (h : x_V S 107 99 L (.int (I 61) :: st) μ n Q) : x_V S 107 97 L (st) μ n Q := x_bipush (by decide +kernel) d107_97 h
theorem s107_99 {S : Nat × (Nat → Int32)} {L : List (Option Value)} {st : List Value} {n : Nat} {Q : xQ} {μ : xM} {x y : Int} (hx : ib x) (hy : ib y) (kt : x = y → x_V S 107 104 L (st) μ n Q) (kf : x ≠ y → x_V S 107 102 L (st) μ n Q) : x_V S 107 99 L (.int (I y) :: .int (I x) :: st) μ n Q := v_icmp_eq d107_99 (by decide) hx hy kt kf
theorem s107_102 {S : Nat × (Nat → Int32)} {L : List (Option Value)} {st : List Value} {n : Nat} {Q : xQ} {μ : xM}  (h : x_V S 107 103 L (.int (I 0) :: st) μ n Q) : x_V S 107 102 L (st) μ n Q := x_iconst (by decide +kernel) d107_102 h
theorem s107_103 {S : Nat × (Nat → Int32)} {L : List (Option Value)} {st : List Value} {n : Nat} {Q : xQ} {μ : xM} {v : Int} (hv : v = 0 ∨ v = 1) (h : Q (.inl (some (.int (I v)))) μ n) : x_V S 107 103 L (.int (I v) :: []) μ n Q := v_zreturn d107_103 rfl hv h
theorem s107_104 {S : Nat × (Nat → Int32)} {L : List (Option Value)} {st : List Value} {n : Nat} {Q : xQ} {μ : xM} {x : Int} (hl : L[1]? = some (some (.int (I x)))) (h : x_V S 107 107 (L.set 1 (some (.int (I (x + 1))))) (st) μ n Q) : x_V S 107 104 L (st) μ n Q := v_iinc d107_104 hl (by decide) h
theorem s107_107 {S : Nat × (Nat → Int32)} {L : List (Option Value)} {st : List Value} {n : Nat} {Q : xQ} {μ : xM} {x : Int32} (hl : L[1]? = some (some (.int x))) (h : x_V S 107 108 L (.int x :: st) μ n Q) : x_V S 107 107 L (st) μ n Q := x_iload_n d107_107 hl h
theorem s107_108 {S : Nat × (Nat → Int32)} {L : List (Option Value)} {st : List Value} {n : Nat} {Q : xQ} {μ : xM} {x : Int32} (h : x_V S 107 110 (L.set 4 (some (.int x))) (st) μ n Q) : x_V S 107 108 L (.int x :: st) μ n Q := x_istore d107_108 (by decide) h
theorem s107_110 {S : Nat × (Nat → Int32)} {L : List (Option Value)} {st : List Value} {n : Nat} {Q : xQ} {μ : xM} {x : Int32} (hl : L[1]? = some (some (.int x))) (h : x_V S 107 111 L (.int x :: st) μ n Q) : x_V S 107 110 L (st) μ n Q := x_iload_n d107_110 hl h
theorem s107_111 {S : Nat × (Nat → Int32)} {L : List (Option Value)} {st : List Value} {n : Nat} {Q : xQ} {μ : xM} {a : Nat} (hl : L[0]? = some (some (.ref a))) (h : x_V S 107 112 L (.ref a :: st) μ n Q) : x_V S 107 111 L (st) μ n Q := x_aload_n d107_111 hl h
theorem s107_111N {S : Nat × (Nat → Int32)} {L : List (Option Value)} {st : List Value} {n : Nat} {Q : xQ} {μ : xM} (hl : L[0]? = some (some .null)) (h : x_V S 107 112 L (.null :: st) μ n Q) : x_V S 107 111 L st μ n Q := x_aload_nN d107_111 hl h
theorem s107_112 {S : Nat × (Nat → Int32)} {L : List (Option Value)} {st : List Value} {n : Nat} {Q : xQ} {g : Nat → Nat → Int} {a : Nat} (hs : x_sh a = (9, 39)) (hp : x_pt a 2 = none) (ha : a ≠ x_out) (h : x_V S 107 115 L (.int (I (g a 2)) :: st) (x_vm g) n Q) : x_V S 107 112 L (.ref a :: st) (x_vm g) n Q := v_get (i := 2) cf9 d107_112 (by decide) w697 hs hp ha h
theorem s107_115 {S : Nat × (Nat → Int32)} {L : List (Option Value)} {st : List Value} {n : Nat} {Q : xQ} {μ : xM} {x y : Int} (hx : ib x) (hy : ib y) (kt : y ≤ x → x_V S 107 146 L (st) μ n Q) (kf : x < y → x_V S 107 118 L (st) μ n Q) : x_V S 107 115 L (.int (I y) :: .int (I x) :: st) μ n Q := v_icmp_ge d107_115 (by decide) hx hy kt kf
theorem s107_118 {S : Nat × (Nat → Int32)} {L : List (Option Value)} {st : List Value} {n : Nat} {Q : xQ} {μ : xM} {a : Nat} (hl : L[0]? = some (some (.ref a))) (h : x_V S 107 119 L (.ref a :: st) μ n Q) : x_V S 107 118 L (st) μ n Q := x_aload_n d107_118 hl h
theorem s107_118N {S : Nat × (Nat → Int32)} {L : List (Option Value)} {st : List Value} {n : Nat} {Q : xQ} {μ : xM} (hl : L[0]? = some (some .null)) (h : x_V S 107 119 L (.null :: st) μ n Q) : x_V S 107 118 L st μ n Q := x_aload_nN d107_118 hl h
theorem s107_119 {S : Nat × (Nat → Int32)} {L : List (Option Value)} {st : List Value} {n : Nat} {Q : xQ} {g : Nat → Nat → Int} {a : Nat} {v : Value} (hs : x_sh a = (9, 39)) (hp : x_pt a 3 = some v) (h : x_V S 107 122 L (v :: st) (x_vm g) n Q) : x_V S 107 119 L (.ref a :: st) (x_vm g) n Q := v_getp (i := 3) cf9 d107_119 (by decide) w698 hs hp h
theorem s107_122 {S : Nat × (Nat → Int32)} {L : List (Option Value)} {st : List Value} {n : Nat} {Q : xQ} {μ : xM} {x : Int32} (hl : L[1]? = some (some (.int x))) (h : x_V S 107 123 L (.int x :: st) μ n Q) : x_V S 107 122 L (st) μ n Q := x_iload_n d107_122 hl h
theorem s107_124 {S : Nat × (Nat → Int32)} {L : List (Option Value)} {st : List Value} {n : Nat} {Q : xQ} {μ : xM}  (h : x_V S 107 126 L (.int (I 33) :: st) μ n Q) : x_V S 107 124 L (st) μ n Q := x_bipush (by decide +kernel) d107_124 h
theorem s107_126 {S : Nat × (Nat → Int32)} {L : List (Option Value)} {st : List Value} {n : Nat} {Q : xQ} {μ : xM} {x y : Int} (hx : ib x) (hy : ib y) (kt : x < y → x_V S 107 146 L (st) μ n Q) (kf : y ≤ x → x_V S 107 129 L (st) μ n Q) : x_V S 107 126 L (.int (I y) :: .int (I x) :: st) μ n Q := v_icmp_lt d107_126 (by decide) hx hy kt kf
theorem s107_129 {S : Nat × (Nat → Int32)} {L : List (Option Value)} {st : List Value} {n : Nat} {Q : xQ} {μ : xM} {a : Nat} (hl : L[0]? = some (some (.ref a))) (h : x_V S 107 130 L (.ref a :: st) μ n Q) : x_V S 107 129 L (st) μ n Q := x_aload_n d107_129 hl h
theorem s107_129N {S : Nat × (Nat → Int32)} {L : List (Option Value)} {st : List Value} {n : Nat} {Q : xQ} {μ : xM} (hl : L[0]? = some (some .null)) (h : x_V S 107 130 L (.null :: st) μ n Q) : x_V S 107 129 L st μ n Q := x_aload_nN d107_129 hl h
theorem s107_130 {S : Nat × (Nat → Int32)} {L : List (Option Value)} {st : List Value} {n : Nat} {Q : xQ} {g : Nat → Nat → Int} {a : Nat} {v : Value} (hs : x_sh a = (9, 39)) (hp : x_pt a 3 = some v) (h : x_V S 107 133 L (v :: st) (x_vm g) n Q) : x_V S 107 130 L (.ref a :: st) (x_vm g) n Q := v_getp (i := 3) cf9 d107_130 (by decide) w698 hs hp h
theorem s107_133 {S : Nat × (Nat → Int32)} {L : List (Option Value)} {st : List Value} {n : Nat} {Q : xQ} {μ : xM} {x : Int32} (hl : L[1]? = some (some (.int x))) (h : x_V S 107 134 L (.int x :: st) μ n Q) : x_V S 107 133 L (st) μ n Q := x_iload_n d107_133 hl h
theorem s107_135 {S : Nat × (Nat → Int32)} {L : List (Option Value)} {st : List Value} {n : Nat} {Q : xQ} {μ : xM}  (h : x_V S 107 137 L (.int (I 126) :: st) μ n Q) : x_V S 107 135 L (st) μ n Q := x_bipush (by decide +kernel) d107_135 h
theorem s107_137 {S : Nat × (Nat → Int32)} {L : List (Option Value)} {st : List Value} {n : Nat} {Q : xQ} {μ : xM} {x y : Int} (hx : ib x) (hy : ib y) (kt : y < x → x_V S 107 146 L (st) μ n Q) (kf : x ≤ y → x_V S 107 140 L (st) μ n Q) : x_V S 107 137 L (.int (I y) :: .int (I x) :: st) μ n Q := v_icmp_gt d107_137 (by decide) hx hy kt kf
theorem s107_140 {S : Nat × (Nat → Int32)} {L : List (Option Value)} {st : List Value} {n : Nat} {Q : xQ} {μ : xM} {x : Int} (hl : L[1]? = some (some (.int (I x)))) (h : x_V S 107 143 (L.set 1 (some (.int (I (x + 1))))) (st) μ n Q) : x_V S 107 140 L (st) μ n Q := v_iinc d107_140 hl (by decide) h
theorem s107_143 {S : Nat × (Nat → Int32)} {L : List (Option Value)} {st : List Value} {n : Nat} {Q : xQ} {μ : xM}  (h : x_V S 107 110 L (st) μ n Q) : x_V S 107 143 L (st) μ n Q := x_goto (tgt := 110) (by decide) d107_143 h
theorem s107_146 {S : Nat × (Nat → Int32)} {L : List (Option Value)} {st : List Value} {n : Nat} {Q : xQ} {μ : xM} {x : Int32} (hl : L[1]? = some (some (.int x))) (h : x_V S 107 147 L (.int x :: st) μ n Q) : x_V S 107 146 L (st) μ n Q := x_iload_n d107_146 hl h
theorem s107_147 {S : Nat × (Nat → Int32)} {L : List (Option Value)} {st : List Value} {n : Nat} {Q : xQ} {μ : xM} {a : Nat} (hl : L[0]? = some (some (.ref a))) (h : x_V S 107 148 L (.ref a :: st) μ n Q) : x_V S 107 147 L (st) μ n Q := x_aload_n d107_147 hl h
theorem s107_147N {S : Nat × (Nat → Int32)} {L : List (Option Value)} {st : List Value} {n : Nat} {Q : xQ} {μ : xM} (hl : L[0]? = some (some .null)) (h : x_V S 107 148 L (.null :: st) μ n Q) : x_V S 107 147 L st μ n Q := x_aload_nN d107_147 hl h
theorem s107_148 {S : Nat × (Nat → Int32)} {L : List (Option Value)} {st : List Value} {n : Nat} {Q : xQ} {g : Nat → Nat → Int} {a : Nat} (hs : x_sh a = (9, 39)) (hp : x_pt a 2 = none) (ha : a ≠ x_out) (h : x_V S 107 151 L (.int (I (g a 2)) :: st) (x_vm g) n Q) : x_V S 107 148 L (.ref a :: st) (x_vm g) n Q := v_get (i := 2) cf9 d107_148 (by decide) w697 hs hp ha h
theorem s107_151 {S : Nat × (Nat → Int32)} {L : List (Option Value)} {st : List Value} {n : Nat} {Q : xQ} {μ : xM} {x y : Int} (hx : ib x) (hy : ib y) (kt : x = y → x_V S 107 170 L (st) μ n Q) (kf : x ≠ y → x_V S 107 154 L (st) μ n Q) : x_V S 107 151 L (.int (I y) :: .int (I x) :: st) μ n Q := v_icmp_eq d107_151 (by decide) hx hy kt kf
theorem s107_154 {S : Nat × (Nat → Int32)} {L : List (Option Value)} {st : List Value} {n : Nat} {Q : xQ} {μ : xM} {a : Nat} (hl : L[0]? = some (some (.ref a))) (h : x_V S 107 155 L (.ref a :: st) μ n Q) : x_V S 107 154 L (st) μ n Q := x_aload_n d107_154 hl h
theorem s107_154N {S : Nat × (Nat → Int32)} {L : List (Option Value)} {st : List Value} {n : Nat} {Q : xQ} {μ : xM} (hl : L[0]? = some (some .null)) (h : x_V S 107 155 L (.null :: st) μ n Q) : x_V S 107 154 L st μ n Q := x_aload_nN d107_154 hl h
theorem s107_155 {S : Nat × (Nat → Int32)} {L : List (Option Value)} {st : List Value} {n : Nat} {Q : xQ} {g : Nat → Nat → Int} {a : Nat} {v : Value} (hs : x_sh a = (9, 39)) (hp : x_pt a 3 = some v) (h : x_V S 107 158 L (v :: st) (x_vm g) n Q) : x_V S 107 155 L (.ref a :: st) (x_vm g) n Q := v_getp (i := 3) cf9 d107_155 (by decide) w698 hs hp h
theorem s107_158 {S : Nat × (Nat → Int32)} {L : List (Option Value)} {st : List Value} {n : Nat} {Q : xQ} {μ : xM} {x : Int32} (hl : L[1]? = some (some (.int x))) (h : x_V S 107 159 L (.int x :: st) μ n Q) : x_V S 107 158 L (st) μ n Q := x_iload_n d107_158 hl h
theorem s107_160 {S : Nat × (Nat → Int32)} {L : List (Option Value)} {st : List Value} {n : Nat} {Q : xQ} {μ : xM}  (h : x_V S 107 161 L (.int (I 1) :: st) μ n Q) : x_V S 107 160 L (st) μ n Q := x_iconst (by decide +kernel) d107_160 h
theorem s107_161 {S : Nat × (Nat → Int32)} {L : List (Option Value)} {st : List Value} {n : Nat} {Q : xQ} {μ : xM} {x y : Int} (hx : ib x) (hy : ib y) (kt : x ≠ y → x_V S 107 170 L (st) μ n Q) (kf : x = y → x_V S 107 164 L (st) μ n Q) : x_V S 107 161 L (.int (I y) :: .int (I x) :: st) μ n Q := v_icmp_ne d107_161 (by decide) hx hy kt kf
theorem s107_164 {S : Nat × (Nat → Int32)} {L : List (Option Value)} {st : List Value} {n : Nat} {Q : xQ} {μ : xM} {x : Int32} (hl : L[1]? = some (some (.int x))) (h : x_V S 107 165 L (.int x :: st) μ n Q) : x_V S 107 164 L (st) μ n Q := x_iload_n d107_164 hl h
theorem s107_165 {S : Nat × (Nat → Int32)} {L : List (Option Value)} {st : List Value} {n : Nat} {Q : xQ} {μ : xM} {x : Int32} (hl : L[4]? = some (some (.int x))) (h : x_V S 107 167 L (.int x :: st) μ n Q) : x_V S 107 165 L (st) μ n Q := x_iload d107_165 hl h
theorem s107_167 {S : Nat × (Nat → Int32)} {L : List (Option Value)} {st : List Value} {n : Nat} {Q : xQ} {μ : xM} {x y : Int} (hx : ib x) (hy : ib y) (kt : x ≠ y → x_V S 107 172 L (st) μ n Q) (kf : x = y → x_V S 107 170 L (st) μ n Q) : x_V S 107 167 L (.int (I y) :: .int (I x) :: st) μ n Q := v_icmp_ne d107_167 (by decide) hx hy kt kf
theorem s107_170 {S : Nat × (Nat → Int32)} {L : List (Option Value)} {st : List Value} {n : Nat} {Q : xQ} {μ : xM}  (h : x_V S 107 171 L (.int (I 0) :: st) μ n Q) : x_V S 107 170 L (st) μ n Q := x_iconst (by decide +kernel) d107_170 h
theorem s107_171 {S : Nat × (Nat → Int32)} {L : List (Option Value)} {st : List Value} {n : Nat} {Q : xQ} {μ : xM} {v : Int} (hv : v = 0 ∨ v = 1) (h : Q (.inl (some (.int (I v)))) μ n) : x_V S 107 171 L (.int (I v) :: []) μ n Q := v_zreturn d107_171 rfl hv h
theorem s107_172 {S : Nat × (Nat → Int32)} {L : List (Option Value)} {st : List Value} {n : Nat} {Q : xQ} {μ : xM} {a : Nat} (hl : L[0]? = some (some (.ref a))) (h : x_V S 107 173 L (.ref a :: st) μ n Q) : x_V S 107 172 L (st) μ n Q := x_aload_n d107_172 hl h
theorem s107_172N {S : Nat × (Nat → Int32)} {L : List (Option Value)} {st : List Value} {n : Nat} {Q : xQ} {μ : xM} (hl : L[0]? = some (some .null)) (h : x_V S 107 173 L (.null :: st) μ n Q) : x_V S 107 172 L st μ n Q := x_aload_nN d107_172 hl h
theorem s107_173 {S : Nat × (Nat → Int32)} {L : List (Option Value)} {st : List Value} {n : Nat} {Q : xQ} {g : Nat → Nat → Int} {a : Nat} {v : Value} (hs : x_sh a = (9, 39)) (hp : x_pt a 5 = some v) (h : x_V S 107 176 L (v :: st) (x_vm g) n Q) : x_V S 107 173 L (.ref a :: st) (x_vm g) n Q := v_getp (i := 5) cf9 d107_173 (by decide) w700 hs hp h
theorem s107_176 {S : Nat × (Nat → Int32)} {L : List (Option Value)} {st : List Value} {n : Nat} {Q : xQ} {μ : xM} {a : Nat} (hl : L[0]? = some (some (.ref a))) (h : x_V S 107 177 L (.ref a :: st) μ n Q) : x_V S 107 176 L (st) μ n Q := x_aload_n d107_176 hl h
theorem s107_176N {S : Nat × (Nat → Int32)} {L : List (Option Value)} {st : List Value} {n : Nat} {Q : xQ} {μ : xM} (hl : L[0]? = some (some .null)) (h : x_V S 107 177 L (.null :: st) μ n Q) : x_V S 107 176 L st μ n Q := x_aload_nN d107_176 hl h
theorem s107_177 {S : Nat × (Nat → Int32)} {L : List (Option Value)} {st : List Value} {n : Nat} {Q : xQ} {g : Nat → Nat → Int} {a : Nat} (hs : x_sh a = (9, 39)) (hp : x_pt a 4 = none) (ha : a ≠ x_out) (h : x_V S 107 180 L (.int (I (g a 4)) :: st) (x_vm g) n Q) : x_V S 107 177 L (.ref a :: st) (x_vm g) n Q := v_get (i := 4) cf9 d107_177 (by decide) w699 hs hp ha h
theorem s107_180 {S : Nat × (Nat → Int32)} {L : List (Option Value)} {st : List Value} {n : Nat} {Q : xQ} {μ : xM} {x : Int32} (hl : L[2]? = some (some (.int x))) (h : x_V S 107 181 L (.int x :: st) μ n Q) : x_V S 107 180 L (st) μ n Q := x_iload_n d107_180 hl h
theorem s107_182 {S : Nat × (Nat → Int32)} {L : List (Option Value)} {st : List Value} {n : Nat} {Q : xQ} {μ : xM} {a : Nat} (hl : L[0]? = some (some (.ref a))) (h : x_V S 107 183 L (.ref a :: st) μ n Q) : x_V S 107 182 L (st) μ n Q := x_aload_n d107_182 hl h
theorem s107_182N {S : Nat × (Nat → Int32)} {L : List (Option Value)} {st : List Value} {n : Nat} {Q : xQ} {μ : xM} (hl : L[0]? = some (some .null)) (h : x_V S 107 183 L (.null :: st) μ n Q) : x_V S 107 182 L st μ n Q := x_aload_nN d107_182 hl h
theorem s107_183 {S : Nat × (Nat → Int32)} {L : List (Option Value)} {st : List Value} {n : Nat} {Q : xQ} {g : Nat → Nat → Int} {a : Nat} {v : Value} (hs : x_sh a = (9, 39)) (hp : x_pt a 6 = some v) (h : x_V S 107 186 L (v :: st) (x_vm g) n Q) : x_V S 107 183 L (.ref a :: st) (x_vm g) n Q := v_getp (i := 6) cf9 d107_183 (by decide) w701 hs hp h
theorem s107_186 {S : Nat × (Nat → Int32)} {L : List (Option Value)} {st : List Value} {n : Nat} {Q : xQ} {μ : xM} {a : Nat} (hl : L[0]? = some (some (.ref a))) (h : x_V S 107 187 L (.ref a :: st) μ n Q) : x_V S 107 186 L (st) μ n Q := x_aload_n d107_186 hl h
theorem s107_186N {S : Nat × (Nat → Int32)} {L : List (Option Value)} {st : List Value} {n : Nat} {Q : xQ} {μ : xM} (hl : L[0]? = some (some .null)) (h : x_V S 107 187 L (.null :: st) μ n Q) : x_V S 107 186 L st μ n Q := x_aload_nN d107_186 hl h
theorem s107_187 {S : Nat × (Nat → Int32)} {L : List (Option Value)} {st : List Value} {n : Nat} {Q : xQ} {g : Nat → Nat → Int} {a : Nat} (hs : x_sh a = (9, 39)) (hp : x_pt a 4 = none) (ha : a ≠ x_out) (h : x_V S 107 190 L (.int (I (g a 4)) :: st) (x_vm g) n Q) : x_V S 107 187 L (.ref a :: st) (x_vm g) n Q := v_get (i := 4) cf9 d107_187 (by decide) w699 hs hp ha h
theorem s107_190 {S : Nat × (Nat → Int32)} {L : List (Option Value)} {st : List Value} {n : Nat} {Q : xQ} {μ : xM} {x : Int32} (hl : L[4]? = some (some (.int x))) (h : x_V S 107 192 L (.int x :: st) μ n Q) : x_V S 107 190 L (st) μ n Q := x_iload d107_190 hl h
theorem s107_193 {S : Nat × (Nat → Int32)} {L : List (Option Value)} {st : List Value} {n : Nat} {Q : xQ} {μ : xM} {a : Nat} (hl : L[0]? = some (some (.ref a))) (h : x_V S 107 194 L (.ref a :: st) μ n Q) : x_V S 107 193 L (st) μ n Q := x_aload_n d107_193 hl h
theorem s107_193N {S : Nat × (Nat → Int32)} {L : List (Option Value)} {st : List Value} {n : Nat} {Q : xQ} {μ : xM} (hl : L[0]? = some (some .null)) (h : x_V S 107 194 L (.null :: st) μ n Q) : x_V S 107 193 L st μ n Q := x_aload_nN d107_193 hl h
theorem s107_194 {S : Nat × (Nat → Int32)} {L : List (Option Value)} {st : List Value} {n : Nat} {Q : xQ} {g : Nat → Nat → Int} {a : Nat} {v : Value} (hs : x_sh a = (9, 39)) (hp : x_pt a 7 = some v) (h : x_V S 107 197 L (v :: st) (x_vm g) n Q) : x_V S 107 194 L (.ref a :: st) (x_vm g) n Q := v_getp (i := 7) cf9 d107_194 (by decide) w702 hs hp h
theorem s107_197 {S : Nat × (Nat → Int32)} {L : List (Option Value)} {st : List Value} {n : Nat} {Q : xQ} {μ : xM} {a : Nat} (hl : L[0]? = some (some (.ref a))) (h : x_V S 107 198 L (.ref a :: st) μ n Q) : x_V S 107 197 L (st) μ n Q := x_aload_n d107_197 hl h
theorem s107_197N {S : Nat × (Nat → Int32)} {L : List (Option Value)} {st : List Value} {n : Nat} {Q : xQ} {μ : xM} (hl : L[0]? = some (some .null)) (h : x_V S 107 198 L (.null :: st) μ n Q) : x_V S 107 197 L st μ n Q := x_aload_nN d107_197 hl h
theorem s107_198 {S : Nat × (Nat → Int32)} {L : List (Option Value)} {st : List Value} {n : Nat} {Q : xQ} {g : Nat → Nat → Int} {a : Nat} (hs : x_sh a = (9, 39)) (hp : x_pt a 4 = none) (ha : a ≠ x_out) (h : x_V S 107 201 L (.int (I (g a 4)) :: st) (x_vm g) n Q) : x_V S 107 198 L (.ref a :: st) (x_vm g) n Q := v_get (i := 4) cf9 d107_198 (by decide) w699 hs hp ha h
theorem s107_201 {S : Nat × (Nat → Int32)} {L : List (Option Value)} {st : List Value} {n : Nat} {Q : xQ} {μ : xM} {x : Int32} (hl : L[1]? = some (some (.int x))) (h : x_V S 107 202 L (.int x :: st) μ n Q) : x_V S 107 201 L (st) μ n Q := x_iload_n d107_201 hl h
theorem s107_203 {S : Nat × (Nat → Int32)} {L : List (Option Value)} {st : List Value} {n : Nat} {Q : xQ} {μ : xM} {a : Nat} (hl : L[0]? = some (some (.ref a))) (h : x_V S 107 204 L (.ref a :: st) μ n Q) : x_V S 107 203 L (st) μ n Q := x_aload_n d107_203 hl h
theorem s107_203N {S : Nat × (Nat → Int32)} {L : List (Option Value)} {st : List Value} {n : Nat} {Q : xQ} {μ : xM} (hl : L[0]? = some (some .null)) (h : x_V S 107 204 L (.null :: st) μ n Q) : x_V S 107 203 L st μ n Q := x_aload_nN d107_203 hl h
theorem s107_204 {S : Nat × (Nat → Int32)} {L : List (Option Value)} {st : List Value} {n : Nat} {Q : xQ} {μ : xM} {v : Value} (hc : v.category = 1) (h : x_V S 107 205 L (v :: v :: st) μ n Q) : x_V S 107 204 L (v :: st) μ n Q := x_dup hc d107_204 h
theorem s107_205 {S : Nat × (Nat → Int32)} {L : List (Option Value)} {st : List Value} {n : Nat} {Q : xQ} {g : Nat → Nat → Int} {a : Nat} (hs : x_sh a = (9, 39)) (hp : x_pt a 4 = none) (ha : a ≠ x_out) (h : x_V S 107 208 L (.int (I (g a 4)) :: st) (x_vm g) n Q) : x_V S 107 205 L (.ref a :: st) (x_vm g) n Q := v_get (i := 4) cf9 d107_205 (by decide) w699 hs hp ha h
theorem s107_208 {S : Nat × (Nat → Int32)} {L : List (Option Value)} {st : List Value} {n : Nat} {Q : xQ} {μ : xM}  (h : x_V S 107 209 L (.int (I 1) :: st) μ n Q) : x_V S 107 208 L (st) μ n Q := x_iconst (by decide +kernel) d107_208 h
theorem s107_209 {S : Nat × (Nat → Int32)} {L : List (Option Value)} {st : List Value} {n : Nat} {Q : xQ} {μ : xM} {x y : Int} (h : x_V S 107 210 L (.int (I (x + y)) :: st) μ n Q) : x_V S 107 209 L (.int (I y) :: .int (I x) :: st) μ n Q := v_iadd d107_209 h
theorem s107_210 {S : Nat × (Nat → Int32)} {L : List (Option Value)} {st : List Value} {n : Nat} {Q : xQ} {g : Nat → Nat → Int} {a : Nat} {x : Int} (hs : x_sh a = (9, 39)) (hp : x_pt a 4 = none) (ha : a ≠ x_out) (h : x_V S 107 213 L (st) (x_vm (x_uf g a 4 x)) n Q) : x_V S 107 210 L (.int (I x) :: .ref a :: st) (x_vm g) n Q := v_put (i := 4) cf9 d107_210 (by decide) rfl w699 hs rfl hp ha h
theorem s107_213 {S : Nat × (Nat → Int32)} {L : List (Option Value)} {st : List Value} {n : Nat} {Q : xQ} {μ : xM} {x : Int} (hl : L[1]? = some (some (.int (I x)))) (h : x_V S 107 216 (L.set 1 (some (.int (I (x + 1))))) (st) μ n Q) : x_V S 107 213 L (st) μ n Q := v_iinc d107_213 hl (by decide) h
theorem s107_216 {S : Nat × (Nat → Int32)} {L : List (Option Value)} {st : List Value} {n : Nat} {Q : xQ} {μ : xM}  (h : x_V S 107 7 L (st) μ n Q) : x_V S 107 216 L (st) μ n Q := x_goto (tgt := 7) (by decide) d107_216 h
theorem s107_219 {S : Nat × (Nat → Int32)} {L : List (Option Value)} {st : List Value} {n : Nat} {Q : xQ} {μ : xM}  (h : x_V S 107 220 L (.int (I 1) :: st) μ n Q) : x_V S 107 219 L (st) μ n Q := x_iconst (by decide +kernel) d107_219 h
theorem s107_220 {S : Nat × (Nat → Int32)} {L : List (Option Value)} {st : List Value} {n : Nat} {Q : xQ} {μ : xM} {v : Int} (hv : v = 0 ∨ v = 1) (h : Q (.inl (some (.int (I v)))) μ n) : x_V S 107 220 L (.int (I v) :: []) μ n Q := v_zreturn d107_220 rfl hv h
theorem mC_108 : mC 108 = prog_12_method_26_code := rfl
theorem d108_0 : decode (mC 108) 0 = .ok (.iload_n 1, 1) := by rw [mC_108]; decide +kernel
theorem d108_1 : decode (mC 108) 1 = .ok (.aload_n 0, 1) := by rw [mC_108]; decide +kernel
theorem d108_2 : decode (mC 108) 2 = .ok (.getfield 149, 3) := by rw [mC_108]; decide +kernel
theorem d108_5 : decode (mC 108) 5 = .ok (.if_icmp .ge 31, 3) := by rw [mC_108]; decide +kernel
theorem d108_8 : decode (mC 108) 8 = .ok (.aload_n 0, 1) := by rw [mC_108]; decide +kernel
theorem d108_9 : decode (mC 108) 9 = .ok (.getfield 13, 3) := by rw [mC_108]; decide +kernel
theorem d108_12 : decode (mC 108) 12 = .ok (.iload_n 1, 1) := by rw [mC_108]; decide +kernel
theorem d108_13 : decode (mC 108) 13 = .ok (.iaload, 1) := by rw [mC_108]; decide +kernel
theorem d108_14 : decode (mC 108) 14 = .ok (.iload_n 2, 1) := by rw [mC_108]; decide +kernel
theorem d108_15 : decode (mC 108) 15 = .ok (.if_icmp .ne 21, 3) := by rw [mC_108]; decide +kernel
theorem d108_18 : decode (mC 108) 18 = .ok (.aload_n 0, 1) := by rw [mC_108]; decide +kernel
theorem d108_19 : decode (mC 108) 19 = .ok (.getfield 19, 3) := by rw [mC_108]; decide +kernel
theorem d108_22 : decode (mC 108) 22 = .ok (.iload_n 1, 1) := by rw [mC_108]; decide +kernel
theorem d108_23 : decode (mC 108) 23 = .ok (.iaload, 1) := by rw [mC_108]; decide +kernel
theorem d108_24 : decode (mC 108) 24 = .ok (.aload_n 0, 1) := by rw [mC_108]; decide +kernel
theorem d108_25 : decode (mC 108) 25 = .ok (.getfield 16, 3) := by rw [mC_108]; decide +kernel
theorem d108_28 : decode (mC 108) 28 = .ok (.iload_n 1, 1) := by rw [mC_108]; decide +kernel
theorem d108_29 : decode (mC 108) 29 = .ok (.iaload, 1) := by rw [mC_108]; decide +kernel
theorem d108_30 : decode (mC 108) 30 = .ok (.isub, 1) := by rw [mC_108]; decide +kernel
theorem d108_31 : decode (mC 108) 31 = .ok (.bipush 6, 2) := by rw [mC_108]; decide +kernel
theorem d108_33 : decode (mC 108) 33 = .ok (.if_icmp .le 5, 3) := by rw [mC_108]; decide +kernel
theorem d108_36 : decode (mC 108) 36 = .ok (.iconst (-1), 1) := by rw [mC_108]; decide +kernel
theorem d108_37 : decode (mC 108) 37 = .ok (.ireturn, 1) := by rw [mC_108]; decide +kernel
theorem d108_38 : decode (mC 108) 38 = .ok (.iconst 0, 1) := by rw [mC_108]; decide +kernel
theorem d108_39 : decode (mC 108) 39 = .ok (.istore_n 3, 1) := by rw [mC_108]; decide +kernel
theorem d108_40 : decode (mC 108) 40 = .ok (.aload_n 0, 1) := by rw [mC_108]; decide +kernel
theorem d108_41 : decode (mC 108) 41 = .ok (.getfield 16, 3) := by rw [mC_108]; decide +kernel
theorem d108_44 : decode (mC 108) 44 = .ok (.iload_n 1, 1) := by rw [mC_108]; decide +kernel
theorem d108_45 : decode (mC 108) 45 = .ok (.iaload, 1) := by rw [mC_108]; decide +kernel
theorem d108_46 : decode (mC 108) 46 = .ok (.istore 4, 2) := by rw [mC_108]; decide +kernel
theorem d108_48 : decode (mC 108) 48 = .ok (.iload 4, 2) := by rw [mC_108]; decide +kernel
theorem d108_50 : decode (mC 108) 50 = .ok (.aload_n 0, 1) := by rw [mC_108]; decide +kernel
theorem d108_51 : decode (mC 108) 51 = .ok (.getfield 19, 3) := by rw [mC_108]; decide +kernel
theorem d108_54 : decode (mC 108) 54 = .ok (.iload_n 1, 1) := by rw [mC_108]; decide +kernel
theorem d108_55 : decode (mC 108) 55 = .ok (.iaload, 1) := by rw [mC_108]; decide +kernel
theorem d108_56 : decode (mC 108) 56 = .ok (.if_icmp .ge 40, 3) := by rw [mC_108]; decide +kernel
theorem d108_59 : decode (mC 108) 59 = .ok (.aload_n 0, 1) := by rw [mC_108]; decide +kernel
theorem d108_60 : decode (mC 108) 60 = .ok (.getfield 7, 3) := by rw [mC_108]; decide +kernel
theorem d108_63 : decode (mC 108) 63 = .ok (.iload 4, 2) := by rw [mC_108]; decide +kernel
theorem d108_65 : decode (mC 108) 65 = .ok (.iaload, 1) := by rw [mC_108]; decide +kernel
theorem d108_66 : decode (mC 108) 66 = .ok (.invokestatic 152, 3) := by rw [mC_108]; decide +kernel
theorem d108_69 : decode (mC 108) 69 = .ok (.ifCond .ne 5, 3) := by rw [mC_108]; decide +kernel
theorem d108_72 : decode (mC 108) 72 = .ok (.iconst (-1), 1) := by rw [mC_108]; decide +kernel
theorem d108_73 : decode (mC 108) 73 = .ok (.ireturn, 1) := by rw [mC_108]; decide +kernel
theorem d108_74 : decode (mC 108) 74 = .ok (.bipush 10, 2) := by rw [mC_108]; decide +kernel
theorem d108_76 : decode (mC 108) 76 = .ok (.iload_n 3, 1) := by rw [mC_108]; decide +kernel
theorem d108_77 : decode (mC 108) 77 = .ok (.imul, 1) := by rw [mC_108]; decide +kernel
theorem d108_78 : decode (mC 108) 78 = .ok (.aload_n 0, 1) := by rw [mC_108]; decide +kernel
theorem d108_79 : decode (mC 108) 79 = .ok (.getfield 7, 3) := by rw [mC_108]; decide +kernel
theorem d108_82 : decode (mC 108) 82 = .ok (.iload 4, 2) := by rw [mC_108]; decide +kernel
theorem d108_84 : decode (mC 108) 84 = .ok (.iaload, 1) := by rw [mC_108]; decide +kernel
theorem d108_85 : decode (mC 108) 85 = .ok (.iadd, 1) := by rw [mC_108]; decide +kernel
theorem d108_86 : decode (mC 108) 86 = .ok (.bipush 48, 2) := by rw [mC_108]; decide +kernel
theorem d108_88 : decode (mC 108) 88 = .ok (.isub, 1) := by rw [mC_108]; decide +kernel
theorem d108_89 : decode (mC 108) 89 = .ok (.istore_n 3, 1) := by rw [mC_108]; decide +kernel
theorem d108_90 : decode (mC 108) 90 = .ok (.iinc 4 1, 3) := by rw [mC_108]; decide +kernel
theorem d108_93 : decode (mC 108) 93 = .ok (.goto (-45), 3) := by rw [mC_108]; decide +kernel
theorem d108_96 : decode (mC 108) 96 = .ok (.iload_n 3, 1) := by rw [mC_108]; decide +kernel
theorem d108_97 : decode (mC 108) 97 = .ok (.ireturn, 1) := by rw [mC_108]; decide +kernel
theorem s108_0 {S : Nat × (Nat → Int32)} {L : List (Option Value)} {st : List Value} {n : Nat} {Q : xQ} {μ : xM} {x : Int32} (hl : L[1]? = some (some (.int x))) (h : x_V S 108 1 L (.int x :: st) μ n Q) : x_V S 108 0 L (st) μ n Q := x_iload_n d108_0 hl h
theorem s108_1 {S : Nat × (Nat → Int32)} {L : List (Option Value)} {st : List Value} {n : Nat} {Q : xQ} {μ : xM} {a : Nat} (hl : L[0]? = some (some (.ref a))) (h : x_V S 108 2 L (.ref a :: st) μ n Q) : x_V S 108 1 L (st) μ n Q := x_aload_n d108_1 hl h
theorem s108_1N {S : Nat × (Nat → Int32)} {L : List (Option Value)} {st : List Value} {n : Nat} {Q : xQ} {μ : xM} (hl : L[0]? = some (some .null)) (h : x_V S 108 2 L (.null :: st) μ n Q) : x_V S 108 1 L st μ n Q := x_aload_nN d108_1 hl h
theorem s108_2 {S : Nat × (Nat → Int32)} {L : List (Option Value)} {st : List Value} {n : Nat} {Q : xQ} {g : Nat → Nat → Int} {a : Nat} (hs : x_sh a = (9, 39)) (hp : x_pt a 4 = none) (ha : a ≠ x_out) (h : x_V S 108 5 L (.int (I (g a 4)) :: st) (x_vm g) n Q) : x_V S 108 2 L (.ref a :: st) (x_vm g) n Q := v_get (i := 4) cf9 d108_2 (by decide) w699 hs hp ha h
theorem s108_5 {S : Nat × (Nat → Int32)} {L : List (Option Value)} {st : List Value} {n : Nat} {Q : xQ} {μ : xM} {x y : Int} (hx : ib x) (hy : ib y) (kt : y ≤ x → x_V S 108 36 L (st) μ n Q) (kf : x < y → x_V S 108 8 L (st) μ n Q) : x_V S 108 5 L (.int (I y) :: .int (I x) :: st) μ n Q := v_icmp_ge d108_5 (by decide) hx hy kt kf
theorem s108_8 {S : Nat × (Nat → Int32)} {L : List (Option Value)} {st : List Value} {n : Nat} {Q : xQ} {μ : xM} {a : Nat} (hl : L[0]? = some (some (.ref a))) (h : x_V S 108 9 L (.ref a :: st) μ n Q) : x_V S 108 8 L (st) μ n Q := x_aload_n d108_8 hl h
theorem s108_8N {S : Nat × (Nat → Int32)} {L : List (Option Value)} {st : List Value} {n : Nat} {Q : xQ} {μ : xM} (hl : L[0]? = some (some .null)) (h : x_V S 108 9 L (.null :: st) μ n Q) : x_V S 108 8 L st μ n Q := x_aload_nN d108_8 hl h
theorem s108_9 {S : Nat × (Nat → Int32)} {L : List (Option Value)} {st : List Value} {n : Nat} {Q : xQ} {g : Nat → Nat → Int} {a : Nat} {v : Value} (hs : x_sh a = (9, 39)) (hp : x_pt a 5 = some v) (h : x_V S 108 12 L (v :: st) (x_vm g) n Q) : x_V S 108 9 L (.ref a :: st) (x_vm g) n Q := v_getp (i := 5) cf9 d108_9 (by decide) w700 hs hp h
theorem s108_12 {S : Nat × (Nat → Int32)} {L : List (Option Value)} {st : List Value} {n : Nat} {Q : xQ} {μ : xM} {x : Int32} (hl : L[1]? = some (some (.int x))) (h : x_V S 108 13 L (.int x :: st) μ n Q) : x_V S 108 12 L (st) μ n Q := x_iload_n d108_12 hl h
theorem s108_14 {S : Nat × (Nat → Int32)} {L : List (Option Value)} {st : List Value} {n : Nat} {Q : xQ} {μ : xM} {x : Int32} (hl : L[2]? = some (some (.int x))) (h : x_V S 108 15 L (.int x :: st) μ n Q) : x_V S 108 14 L (st) μ n Q := x_iload_n d108_14 hl h
theorem s108_15 {S : Nat × (Nat → Int32)} {L : List (Option Value)} {st : List Value} {n : Nat} {Q : xQ} {μ : xM} {x y : Int} (hx : ib x) (hy : ib y) (kt : x ≠ y → x_V S 108 36 L (st) μ n Q) (kf : x = y → x_V S 108 18 L (st) μ n Q) : x_V S 108 15 L (.int (I y) :: .int (I x) :: st) μ n Q := v_icmp_ne d108_15 (by decide) hx hy kt kf
theorem s108_18 {S : Nat × (Nat → Int32)} {L : List (Option Value)} {st : List Value} {n : Nat} {Q : xQ} {μ : xM} {a : Nat} (hl : L[0]? = some (some (.ref a))) (h : x_V S 108 19 L (.ref a :: st) μ n Q) : x_V S 108 18 L (st) μ n Q := x_aload_n d108_18 hl h
theorem s108_18N {S : Nat × (Nat → Int32)} {L : List (Option Value)} {st : List Value} {n : Nat} {Q : xQ} {μ : xM} (hl : L[0]? = some (some .null)) (h : x_V S 108 19 L (.null :: st) μ n Q) : x_V S 108 18 L st μ n Q := x_aload_nN d108_18 hl h
theorem s108_19 {S : Nat × (Nat → Int32)} {L : List (Option Value)} {st : List Value} {n : Nat} {Q : xQ} {g : Nat → Nat → Int} {a : Nat} {v : Value} (hs : x_sh a = (9, 39)) (hp : x_pt a 7 = some v) (h : x_V S 108 22 L (v :: st) (x_vm g) n Q) : x_V S 108 19 L (.ref a :: st) (x_vm g) n Q := v_getp (i := 7) cf9 d108_19 (by decide) w702 hs hp h
theorem s108_22 {S : Nat × (Nat → Int32)} {L : List (Option Value)} {st : List Value} {n : Nat} {Q : xQ} {μ : xM} {x : Int32} (hl : L[1]? = some (some (.int x))) (h : x_V S 108 23 L (.int x :: st) μ n Q) : x_V S 108 22 L (st) μ n Q := x_iload_n d108_22 hl h
theorem s108_24 {S : Nat × (Nat → Int32)} {L : List (Option Value)} {st : List Value} {n : Nat} {Q : xQ} {μ : xM} {a : Nat} (hl : L[0]? = some (some (.ref a))) (h : x_V S 108 25 L (.ref a :: st) μ n Q) : x_V S 108 24 L (st) μ n Q := x_aload_n d108_24 hl h
theorem s108_24N {S : Nat × (Nat → Int32)} {L : List (Option Value)} {st : List Value} {n : Nat} {Q : xQ} {μ : xM} (hl : L[0]? = some (some .null)) (h : x_V S 108 25 L (.null :: st) μ n Q) : x_V S 108 24 L st μ n Q := x_aload_nN d108_24 hl h
theorem s108_25 {S : Nat × (Nat → Int32)} {L : List (Option Value)} {st : List Value} {n : Nat} {Q : xQ} {g : Nat → Nat → Int} {a : Nat} {v : Value} (hs : x_sh a = (9, 39)) (hp : x_pt a 6 = some v) (h : x_V S 108 28 L (v :: st) (x_vm g) n Q) : x_V S 108 25 L (.ref a :: st) (x_vm g) n Q := v_getp (i := 6) cf9 d108_25 (by decide) w701 hs hp h
theorem s108_28 {S : Nat × (Nat → Int32)} {L : List (Option Value)} {st : List Value} {n : Nat} {Q : xQ} {μ : xM} {x : Int32} (hl : L[1]? = some (some (.int x))) (h : x_V S 108 29 L (.int x :: st) μ n Q) : x_V S 108 28 L (st) μ n Q := x_iload_n d108_28 hl h
theorem s108_30 {S : Nat × (Nat → Int32)} {L : List (Option Value)} {st : List Value} {n : Nat} {Q : xQ} {μ : xM} {x y : Int} (h : x_V S 108 31 L (.int (I (x - y)) :: st) μ n Q) : x_V S 108 30 L (.int (I y) :: .int (I x) :: st) μ n Q := v_isub d108_30 h
theorem s108_31 {S : Nat × (Nat → Int32)} {L : List (Option Value)} {st : List Value} {n : Nat} {Q : xQ} {μ : xM}  (h : x_V S 108 33 L (.int (I 6) :: st) μ n Q) : x_V S 108 31 L (st) μ n Q := x_bipush (by decide +kernel) d108_31 h
theorem s108_33 {S : Nat × (Nat → Int32)} {L : List (Option Value)} {st : List Value} {n : Nat} {Q : xQ} {μ : xM} {x y : Int} (hx : ib x) (hy : ib y) (kt : x ≤ y → x_V S 108 38 L (st) μ n Q) (kf : y < x → x_V S 108 36 L (st) μ n Q) : x_V S 108 33 L (.int (I y) :: .int (I x) :: st) μ n Q := v_icmp_le d108_33 (by decide) hx hy kt kf
theorem s108_36 {S : Nat × (Nat → Int32)} {L : List (Option Value)} {st : List Value} {n : Nat} {Q : xQ} {μ : xM}  (h : x_V S 108 37 L (.int (I (-1)) :: st) μ n Q) : x_V S 108 36 L (st) μ n Q := x_iconst (by decide +kernel) d108_36 h
theorem s108_37 {S : Nat × (Nat → Int32)} {L : List (Option Value)} {st : List Value} {n : Nat} {Q : xQ} {μ : xM} {x : Int32} (h : Q (.inl (some (.int x))) μ n) : x_V S 108 37 L (.int x :: []) μ n Q := x_ireturn d108_37 rfl rfl h
theorem s108_38 {S : Nat × (Nat → Int32)} {L : List (Option Value)} {st : List Value} {n : Nat} {Q : xQ} {μ : xM}  (h : x_V S 108 39 L (.int (I 0) :: st) μ n Q) : x_V S 108 38 L (st) μ n Q := x_iconst (by decide +kernel) d108_38 h
theorem s108_39 {S : Nat × (Nat → Int32)} {L : List (Option Value)} {st : List Value} {n : Nat} {Q : xQ} {μ : xM} {x : Int32} (h : x_V S 108 40 (L.set 3 (some (.int x))) (st) μ n Q) : x_V S 108 39 L (.int x :: st) μ n Q := x_istore_n d108_39 (by decide) h
theorem s108_40 {S : Nat × (Nat → Int32)} {L : List (Option Value)} {st : List Value} {n : Nat} {Q : xQ} {μ : xM} {a : Nat} (hl : L[0]? = some (some (.ref a))) (h : x_V S 108 41 L (.ref a :: st) μ n Q) : x_V S 108 40 L (st) μ n Q := x_aload_n d108_40 hl h
theorem s108_40N {S : Nat × (Nat → Int32)} {L : List (Option Value)} {st : List Value} {n : Nat} {Q : xQ} {μ : xM} (hl : L[0]? = some (some .null)) (h : x_V S 108 41 L (.null :: st) μ n Q) : x_V S 108 40 L st μ n Q := x_aload_nN d108_40 hl h
theorem s108_41 {S : Nat × (Nat → Int32)} {L : List (Option Value)} {st : List Value} {n : Nat} {Q : xQ} {g : Nat → Nat → Int} {a : Nat} {v : Value} (hs : x_sh a = (9, 39)) (hp : x_pt a 6 = some v) (h : x_V S 108 44 L (v :: st) (x_vm g) n Q) : x_V S 108 41 L (.ref a :: st) (x_vm g) n Q := v_getp (i := 6) cf9 d108_41 (by decide) w701 hs hp h
theorem s108_44 {S : Nat × (Nat → Int32)} {L : List (Option Value)} {st : List Value} {n : Nat} {Q : xQ} {μ : xM} {x : Int32} (hl : L[1]? = some (some (.int x))) (h : x_V S 108 45 L (.int x :: st) μ n Q) : x_V S 108 44 L (st) μ n Q := x_iload_n d108_44 hl h
theorem s108_46 {S : Nat × (Nat → Int32)} {L : List (Option Value)} {st : List Value} {n : Nat} {Q : xQ} {μ : xM} {x : Int32} (h : x_V S 108 48 (L.set 4 (some (.int x))) (st) μ n Q) : x_V S 108 46 L (.int x :: st) μ n Q := x_istore d108_46 (by decide) h
theorem s108_48 {S : Nat × (Nat → Int32)} {L : List (Option Value)} {st : List Value} {n : Nat} {Q : xQ} {μ : xM} {x : Int32} (hl : L[4]? = some (some (.int x))) (h : x_V S 108 50 L (.int x :: st) μ n Q) : x_V S 108 48 L (st) μ n Q := x_iload d108_48 hl h
theorem s108_50 {S : Nat × (Nat → Int32)} {L : List (Option Value)} {st : List Value} {n : Nat} {Q : xQ} {μ : xM} {a : Nat} (hl : L[0]? = some (some (.ref a))) (h : x_V S 108 51 L (.ref a :: st) μ n Q) : x_V S 108 50 L (st) μ n Q := x_aload_n d108_50 hl h
theorem s108_50N {S : Nat × (Nat → Int32)} {L : List (Option Value)} {st : List Value} {n : Nat} {Q : xQ} {μ : xM} (hl : L[0]? = some (some .null)) (h : x_V S 108 51 L (.null :: st) μ n Q) : x_V S 108 50 L st μ n Q := x_aload_nN d108_50 hl h
theorem s108_51 {S : Nat × (Nat → Int32)} {L : List (Option Value)} {st : List Value} {n : Nat} {Q : xQ} {g : Nat → Nat → Int} {a : Nat} {v : Value} (hs : x_sh a = (9, 39)) (hp : x_pt a 7 = some v) (h : x_V S 108 54 L (v :: st) (x_vm g) n Q) : x_V S 108 51 L (.ref a :: st) (x_vm g) n Q := v_getp (i := 7) cf9 d108_51 (by decide) w702 hs hp h
theorem s108_54 {S : Nat × (Nat → Int32)} {L : List (Option Value)} {st : List Value} {n : Nat} {Q : xQ} {μ : xM} {x : Int32} (hl : L[1]? = some (some (.int x))) (h : x_V S 108 55 L (.int x :: st) μ n Q) : x_V S 108 54 L (st) μ n Q := x_iload_n d108_54 hl h
theorem s108_56 {S : Nat × (Nat → Int32)} {L : List (Option Value)} {st : List Value} {n : Nat} {Q : xQ} {μ : xM} {x y : Int} (hx : ib x) (hy : ib y) (kt : y ≤ x → x_V S 108 96 L (st) μ n Q) (kf : x < y → x_V S 108 59 L (st) μ n Q) : x_V S 108 56 L (.int (I y) :: .int (I x) :: st) μ n Q := v_icmp_ge d108_56 (by decide) hx hy kt kf
theorem s108_59 {S : Nat × (Nat → Int32)} {L : List (Option Value)} {st : List Value} {n : Nat} {Q : xQ} {μ : xM} {a : Nat} (hl : L[0]? = some (some (.ref a))) (h : x_V S 108 60 L (.ref a :: st) μ n Q) : x_V S 108 59 L (st) μ n Q := x_aload_n d108_59 hl h
theorem s108_59N {S : Nat × (Nat → Int32)} {L : List (Option Value)} {st : List Value} {n : Nat} {Q : xQ} {μ : xM} (hl : L[0]? = some (some .null)) (h : x_V S 108 60 L (.null :: st) μ n Q) : x_V S 108 59 L st μ n Q := x_aload_nN d108_59 hl h
theorem s108_60 {S : Nat × (Nat → Int32)} {L : List (Option Value)} {st : List Value} {n : Nat} {Q : xQ} {g : Nat → Nat → Int} {a : Nat} {v : Value} (hs : x_sh a = (9, 39)) (hp : x_pt a 3 = some v) (h : x_V S 108 63 L (v :: st) (x_vm g) n Q) : x_V S 108 60 L (.ref a :: st) (x_vm g) n Q := v_getp (i := 3) cf9 d108_60 (by decide) w698 hs hp h
theorem s108_63 {S : Nat × (Nat → Int32)} {L : List (Option Value)} {st : List Value} {n : Nat} {Q : xQ} {μ : xM} {x : Int32} (hl : L[4]? = some (some (.int x))) (h : x_V S 108 65 L (.int x :: st) μ n Q) : x_V S 108 63 L (st) μ n Q := x_iload d108_63 hl h
theorem s108_66 {S : Nat × (Nat → Int32)} {L : List (Option Value)} {st : List Value} {n : Nat} {Q : xQ} {μ : xM} {x0 : Int32} (hst : st.length ≤ 4) (h : x_V S 106 0 [some (.int x0)] [] μ n (x_bk S 108 66 L st Q)) : x_V S 108 66 L (.int x0 :: st) μ n Q := x_callS (k' := 106) (as := [.int x0]) (na := 1) d108_66 ⟨w896, by decide +kernel, by decide, by decide, by decide, by decide, by decide⟩ w894 w895 w10 (by decide +kernel) rfl (fun v hv => by
    simp only [List.mem_cons, List.not_mem_nil, or_false] at hv
    rcases hv with rfl <;> first | rfl | assumption) hst h
theorem s108_69 {S : Nat × (Nat → Int32)} {L : List (Option Value)} {st : List Value} {n : Nat} {Q : xQ} {μ : xM} {x : Int} (hx : ib x) (kt : x ≠ 0 → x_V S 108 74 L (st) μ n Q) (kf : x = 0 → x_V S 108 72 L (st) μ n Q) : x_V S 108 69 L (.int (I x) :: st) μ n Q := v_if_ne d108_69 (by decide) hx kt kf
theorem s108_72 {S : Nat × (Nat → Int32)} {L : List (Option Value)} {st : List Value} {n : Nat} {Q : xQ} {μ : xM}  (h : x_V S 108 73 L (.int (I (-1)) :: st) μ n Q) : x_V S 108 72 L (st) μ n Q := x_iconst (by decide +kernel) d108_72 h
theorem s108_73 {S : Nat × (Nat → Int32)} {L : List (Option Value)} {st : List Value} {n : Nat} {Q : xQ} {μ : xM} {x : Int32} (h : Q (.inl (some (.int x))) μ n) : x_V S 108 73 L (.int x :: []) μ n Q := x_ireturn d108_73 rfl rfl h
theorem s108_74 {S : Nat × (Nat → Int32)} {L : List (Option Value)} {st : List Value} {n : Nat} {Q : xQ} {μ : xM}  (h : x_V S 108 76 L (.int (I 10) :: st) μ n Q) : x_V S 108 74 L (st) μ n Q := x_bipush (by decide +kernel) d108_74 h
theorem s108_76 {S : Nat × (Nat → Int32)} {L : List (Option Value)} {st : List Value} {n : Nat} {Q : xQ} {μ : xM} {x : Int32} (hl : L[3]? = some (some (.int x))) (h : x_V S 108 77 L (.int x :: st) μ n Q) : x_V S 108 76 L (st) μ n Q := x_iload_n d108_76 hl h
theorem s108_77 {S : Nat × (Nat → Int32)} {L : List (Option Value)} {st : List Value} {n : Nat} {Q : xQ} {μ : xM} {x y : Int} (h : x_V S 108 78 L (.int (I (x * y)) :: st) μ n Q) : x_V S 108 77 L (.int (I y) :: .int (I x) :: st) μ n Q := v_imul d108_77 h
theorem s108_78 {S : Nat × (Nat → Int32)} {L : List (Option Value)} {st : List Value} {n : Nat} {Q : xQ} {μ : xM} {a : Nat} (hl : L[0]? = some (some (.ref a))) (h : x_V S 108 79 L (.ref a :: st) μ n Q) : x_V S 108 78 L (st) μ n Q := x_aload_n d108_78 hl h
theorem s108_78N {S : Nat × (Nat → Int32)} {L : List (Option Value)} {st : List Value} {n : Nat} {Q : xQ} {μ : xM} (hl : L[0]? = some (some .null)) (h : x_V S 108 79 L (.null :: st) μ n Q) : x_V S 108 78 L st μ n Q := x_aload_nN d108_78 hl h
theorem s108_79 {S : Nat × (Nat → Int32)} {L : List (Option Value)} {st : List Value} {n : Nat} {Q : xQ} {g : Nat → Nat → Int} {a : Nat} {v : Value} (hs : x_sh a = (9, 39)) (hp : x_pt a 3 = some v) (h : x_V S 108 82 L (v :: st) (x_vm g) n Q) : x_V S 108 79 L (.ref a :: st) (x_vm g) n Q := v_getp (i := 3) cf9 d108_79 (by decide) w698 hs hp h
theorem s108_82 {S : Nat × (Nat → Int32)} {L : List (Option Value)} {st : List Value} {n : Nat} {Q : xQ} {μ : xM} {x : Int32} (hl : L[4]? = some (some (.int x))) (h : x_V S 108 84 L (.int x :: st) μ n Q) : x_V S 108 82 L (st) μ n Q := x_iload d108_82 hl h
theorem s108_85 {S : Nat × (Nat → Int32)} {L : List (Option Value)} {st : List Value} {n : Nat} {Q : xQ} {μ : xM} {x y : Int} (h : x_V S 108 86 L (.int (I (x + y)) :: st) μ n Q) : x_V S 108 85 L (.int (I y) :: .int (I x) :: st) μ n Q := v_iadd d108_85 h
theorem s108_86 {S : Nat × (Nat → Int32)} {L : List (Option Value)} {st : List Value} {n : Nat} {Q : xQ} {μ : xM}  (h : x_V S 108 88 L (.int (I 48) :: st) μ n Q) : x_V S 108 86 L (st) μ n Q := x_bipush (by decide +kernel) d108_86 h
theorem s108_88 {S : Nat × (Nat → Int32)} {L : List (Option Value)} {st : List Value} {n : Nat} {Q : xQ} {μ : xM} {x y : Int} (h : x_V S 108 89 L (.int (I (x - y)) :: st) μ n Q) : x_V S 108 88 L (.int (I y) :: .int (I x) :: st) μ n Q := v_isub d108_88 h
theorem s108_89 {S : Nat × (Nat → Int32)} {L : List (Option Value)} {st : List Value} {n : Nat} {Q : xQ} {μ : xM} {x : Int32} (h : x_V S 108 90 (L.set 3 (some (.int x))) (st) μ n Q) : x_V S 108 89 L (.int x :: st) μ n Q := x_istore_n d108_89 (by decide) h
theorem s108_90 {S : Nat × (Nat → Int32)} {L : List (Option Value)} {st : List Value} {n : Nat} {Q : xQ} {μ : xM} {x : Int} (hl : L[4]? = some (some (.int (I x)))) (h : x_V S 108 93 (L.set 4 (some (.int (I (x + 1))))) (st) μ n Q) : x_V S 108 90 L (st) μ n Q := v_iinc d108_90 hl (by decide) h
theorem s108_93 {S : Nat × (Nat → Int32)} {L : List (Option Value)} {st : List Value} {n : Nat} {Q : xQ} {μ : xM}  (h : x_V S 108 48 L (st) μ n Q) : x_V S 108 93 L (st) μ n Q := x_goto (tgt := 48) (by decide) d108_93 h
theorem s108_96 {S : Nat × (Nat → Int32)} {L : List (Option Value)} {st : List Value} {n : Nat} {Q : xQ} {μ : xM} {x : Int32} (hl : L[3]? = some (some (.int x))) (h : x_V S 108 97 L (.int x :: st) μ n Q) : x_V S 108 96 L (st) μ n Q := x_iload_n d108_96 hl h
theorem s108_97 {S : Nat × (Nat → Int32)} {L : List (Option Value)} {st : List Value} {n : Nat} {Q : xQ} {μ : xM} {x : Int32} (h : Q (.inl (some (.int x))) μ n) : x_V S 108 97 L (.int x :: []) μ n Q := x_ireturn d108_97 rfl rfl h
