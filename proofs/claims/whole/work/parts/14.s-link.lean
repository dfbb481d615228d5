/-! 14.s-link: decode rows and step rows of TradeLink; laid by a program. -/
theorem ta_0 : (Bundle.ownAtoms0 "TradeLink" 41 "java/lang/IllegalArgumentException" ["java/lang/RuntimeException", "java/lang/Exception"]).all x_ta = true := by decide +kernel
theorem ta_1 : (Bundle.ownAtoms0 "TradeLink" 93 "java/lang/IllegalStateException" ["java/lang/RuntimeException", "java/lang/Exception"]).all x_ta = true := by decide +kernel
theorem ta_2 : (Bundle.ownAtoms0 "TradeLink" 78 "java/lang/IndexOutOfBoundsException" ["java/lang/RuntimeException", "java/lang/Exception"]).all x_ta = true := by decide +kernel
theorem ta_3 : (Bundle.ownAtoms0 "TradeLink" 132 "java/util/NoSuchElementException" ["java/lang/RuntimeException", "java/lang/Exception"]).all x_ta = true := by decide +kernel
theorem mC_69 : mC 69 = prog_1_method_1_code := rfl
theorem d69_0 : decode (mC 69) 0 = .ok (.aload_n 0, 1) := by rw [mC_69]; decide +kernel
theorem d69_1 : decode (mC 69) 1 = .ok (.invokespecial 1, 3) := by rw [mC_69]; decide +kernel
theorem d69_4 : decode (mC 69) 4 = .ok (.aload_n 0, 1) := by rw [mC_69]; decide +kernel
theorem d69_5 : decode (mC 69) 5 = .ok (.new 7, 3) := by rw [mC_69]; decide +kernel
theorem d69_8 : decode (mC 69) 8 = .ok (.dup, 1) := by rw [mC_69]; decide +kernel
theorem d69_9 : decode (mC 69) 9 = .ok (.invokespecial 9, 3) := by rw [mC_69]; decide +kernel
theorem d69_12 : decode (mC 69) 12 = .ok (.putfield 10, 3) := by rw [mC_69]; decide +kernel
theorem d69_15 : decode (mC 69) 15 = .ok (.aload_n 0, 1) := by rw [mC_69]; decide +kernel
theorem d69_16 : decode (mC 69) 16 = .ok (.new 16, 3) := by rw [mC_69]; decide +kernel
theorem d69_19 : decode (mC 69) 19 = .ok (.dup, 1) := by rw [mC_69]; decide +kernel
theorem d69_20 : decode (mC 69) 20 = .ok (.invokespecial 18, 3) := by rw [mC_69]; decide +kernel
theorem d69_23 : decode (mC 69) 23 = .ok (.putfield 19, 3) := by rw [mC_69]; decide +kernel
theorem d69_26 : decode (mC 69) 26 = .ok (.aload_n 0, 1) := by rw [mC_69]; decide +kernel
theorem d69_27 : decode (mC 69) 27 = .ok (.new 23, 3) := by rw [mC_69]; decide +kernel
theorem d69_30 : decode (mC 69) 30 = .ok (.dup, 1) := by rw [mC_69]; decide +kernel
theorem d69_31 : decode (mC 69) 31 = .ok (.invokespecial 25, 3) := by rw [mC_69]; decide +kernel
theorem d69_34 : decode (mC 69) 34 = .ok (.putfield 26, 3) := by rw [mC_69]; decide +kernel
theorem d69_37 : decode (mC 69) 37 = .ok (.return_, 1) := by rw [mC_69]; decide +kernel
theorem s69_0 {S : Nat × (Nat → Int32)} {L : List (Option Value)} {st : List Value} {n : Nat} {Q : xQ} {μ : xM} {a : Nat} (hl : L[0]? = some (some (.ref a))) (h : x_V S 69 1 L (.ref a :: st) μ n Q) : x_V S 69 0 L (st) μ n Q := x_aload_n d69_0 hl h
theorem s69_0N {S : Nat × (Nat → Int32)} {L : List (Option Value)} {st : List Value} {n : Nat} {Q : xQ} {μ : xM} (hl : L[0]? = some (some .null)) (h : x_V S 69 1 L (.null :: st) μ n Q) : x_V S 69 0 L st μ n Q := x_aload_nN d69_0 hl h
theorem s69_1 {S : Nat × (Nat → Int32)} {L : List (Option Value)} {st : List Value} {n : Nat} {Q : xQ} {μ : xM} {a : Nat} (hst : st.length ≤ 4) (h : x_V S 69 4 L (st) μ n Q) : x_V S 69 1 L (.ref a :: st) μ n Q := x_objInit d69_1 w25 w26 w27 ⟨by decide, by decide⟩ hst h
theorem s69_4 {S : Nat × (Nat → Int32)} {L : List (Option Value)} {st : List Value} {n : Nat} {Q : xQ} {μ : xM} {a : Nat} (hl : L[0]? = some (some (.ref a))) (h : x_V S 69 5 L (.ref a :: st) μ n Q) : x_V S 69 4 L (st) μ n Q := x_aload_n d69_4 hl h
theorem s69_4N {S : Nat × (Nat → Int32)} {L : List (Option Value)} {st : List Value} {n : Nat} {Q : xQ} {μ : xM} (hl : L[0]? = some (some .null)) (h : x_V S 69 5 L (.null :: st) μ n Q) : x_V S 69 4 L st μ n Q := x_aload_nN d69_4 hl h
theorem s69_5 {S : Nat × (Nat → Int32)} {L : List (Option Value)} {st : List Value} {n : Nat} {Q : xQ} {μ : xM}  (hs : x_sh n = (1, 2)) (hn : n < x_NM) (h : x_V S 69 8 L (.ref n :: st) (x_nw μ n (fun i => defaultValue (xt1 i))) (n + 1) Q) : x_V S 69 5 L (st) μ n Q := x_new cf1 d69_5 w28 hs hn h
theorem s69_8 {S : Nat × (Nat → Int32)} {L : List (Option Value)} {st : List Value} {n : Nat} {Q : xQ} {μ : xM} {v : Value} (hc : v.category = 1) (h : x_V S 69 9 L (v :: v :: st) μ n Q) : x_V S 69 8 L (v :: st) μ n Q := x_dup hc d69_8 h
theorem s69_9 {S : Nat × (Nat → Int32)} {L : List (Option Value)} {st : List Value} {n : Nat} {Q : xQ} {μ : xM}  {a : Nat} (hst : st.length ≤ 4) (h : x_V S 27 0 [some (.ref a)] [] μ n (x_bk S 69 9 L st Q)) : x_V S 69 9 L (.ref a :: st) μ n Q := x_callIN (k' := 27) (as := []) (na := 0) d69_9 ⟨w32, by decide +kernel, by decide, by decide, by decide, by decide, by decide⟩ rfl rfl rfl w30 w31 (by decide +kernel) rfl (fun v hv => by
    cases hv) hst h
theorem s69_12 {S : Nat × (Nat → Int32)} {L : List (Option Value)} {st : List Value} {n : Nat} {Q : xQ} {μ : xM} {a b : Nat} (hs : x_sh a = (0, 3)) (h : x_V S 69 15 L (st) (x_up μ a 0 (.ref b)) n Q) : x_V S 69 12 L (.ref b :: .ref a :: st) μ n Q := x_putF (i := 0) cf0 d69_12 (by decide) rfl rfl rfl w223 hs (fun _ => ⟨rfl, rfl⟩) h
theorem s69_15 {S : Nat × (Nat → Int32)} {L : List (Option Value)} {st : List Value} {n : Nat} {Q : xQ} {μ : xM} {a : Nat} (hl : L[0]? = some (some (.ref a))) (h : x_V S 69 16 L (.ref a :: st) μ n Q) : x_V S 69 15 L (st) μ n Q := x_aload_n d69_15 hl h
theorem s69_15N {S : Nat × (Nat → Int32)} {L : List (Option Value)} {st : List Value} {n : Nat} {Q : xQ} {μ : xM} (hl : L[0]? = some (some .null)) (h : x_V S 69 16 L (.null :: st) μ n Q) : x_V S 69 15 L st μ n Q := x_aload_nN d69_15 hl h
theorem s69_16 {S : Nat × (Nat → Int32)} {L : List (Option Value)} {st : List Value} {n : Nat} {Q : xQ} {μ : xM}  (hs : x_sh n = (3, 4)) (hn : n < x_NM) (h : x_V S 69 19 L (.ref n :: st) (x_nw μ n (fun i => defaultValue (xt3 i))) (n + 1) Q) : x_V S 69 16 L (st) μ n Q := x_new cf3 d69_16 w59 hs hn h
theorem s69_19 {S : Nat × (Nat → Int32)} {L : List (Option Value)} {st : List Value} {n : Nat} {Q : xQ} {μ : xM} {v : Value} (hc : v.category = 1) (h : x_V S 69 20 L (v :: v :: st) μ n Q) : x_V S 69 19 L (v :: st) μ n Q := x_dup hc d69_19 h
theorem s69_20 {S : Nat × (Nat → Int32)} {L : List (Option Value)} {st : List Value} {n : Nat} {Q : xQ} {μ : xM}  {a : Nat} (hst : st.length ≤ 4) (h : x_V S 21 0 [some (.ref a)] [] μ n (x_bk S 69 20 L st Q)) : x_V S 69 20 L (.ref a :: st) μ n Q := x_callIN (k' := 21) (as := []) (na := 0) d69_20 ⟨w63, by decide +kernel, by decide, by decide, by decide, by decide, by decide⟩ rfl rfl rfl w61 w62 (by decide +kernel) rfl (fun v hv => by
    cases hv) hst h
theorem s69_23 {S : Nat × (Nat → Int32)} {L : List (Option Value)} {st : List Value} {n : Nat} {Q : xQ} {μ : xM} {a b : Nat} (hs : x_sh a = (0, 3)) (h : x_V S 69 26 L (st) (x_up μ a 1 (.ref b)) n Q) : x_V S 69 23 L (.ref b :: .ref a :: st) μ n Q := x_putF (i := 1) cf0 d69_23 (by decide) rfl rfl rfl w224 hs (fun _ => ⟨rfl, rfl⟩) h
theorem s69_26 {S : Nat × (Nat → Int32)} {L : List (Option Value)} {st : List Value} {n : Nat} {Q : xQ} {μ : xM} {a : Nat} (hl : L[0]? = some (some (.ref a))) (h : x_V S 69 27 L (.ref a :: st) μ n Q) : x_V S 69 26 L (st) μ n Q := x_aload_n d69_26 hl h
theorem s69_26N {S : Nat × (Nat → Int32)} {L : List (Option Value)} {st : List Value} {n : Nat} {Q : xQ} {μ : xM} (hl : L[0]? = some (some .null)) (h : x_V S 69 27 L (.null :: st) μ n Q) : x_V S 69 26 L st μ n Q := x_aload_nN d69_26 hl h
theorem s69_27 {S : Nat × (Nat → Int32)} {L : List (Option Value)} {st : List Value} {n : Nat} {Q : xQ} {μ : xM}  (hs : x_sh n = (4, 12)) (hn : n < x_NM) (h : x_V S 69 30 L (.ref n :: st) (x_nw μ n (fun i => defaultValue (xt4 i))) (n + 1) Q) : x_V S 69 27 L (st) μ n Q := x_new cf4 d69_27 w86 hs hn h
theorem s69_30 {S : Nat × (Nat → Int32)} {L : List (Option Value)} {st : List Value} {n : Nat} {Q : xQ} {μ : xM} {v : Value} (hc : v.category = 1) (h : x_V S 69 31 L (v :: v :: st) μ n Q) : x_V S 69 30 L (v :: st) μ n Q := x_dup hc d69_30 h
theorem s69_31 {S : Nat × (Nat → Int32)} {L : List (Option Value)} {st : List Value} {n : Nat} {Q : xQ} {μ : xM}  {a : Nat} (hst : st.length ≤ 4) (h : x_V S 54 0 [some (.ref a)] [] μ n (x_bk S 69 31 L st Q)) : x_V S 69 31 L (.ref a :: st) μ n Q := x_callIN (k' := 54) (as := []) (na := 0) d69_31 ⟨w90, by decide +kernel, by decide, by decide, by decide, by decide, by decide⟩ rfl rfl rfl w88 w89 (by decide +kernel) rfl (fun v hv => by
    cases hv) hst h
theorem s69_34 {S : Nat × (Nat → Int32)} {L : List (Option Value)} {st : List Value} {n : Nat} {Q : xQ} {μ : xM} {a b : Nat} (hs : x_sh a = (0, 3)) (h : x_V S 69 37 L (st) (x_up μ a 2 (.ref b)) n Q) : x_V S 69 34 L (.ref b :: .ref a :: st) μ n Q := x_putF (i := 2) cf0 d69_34 (by decide) rfl rfl rfl w225 hs (fun _ => ⟨rfl, rfl⟩) h
theorem s69_37 {S : Nat × (Nat → Int32)} {L : List (Option Value)} {st : List Value} {n : Nat} {Q : xQ} {μ : xM}  (h : Q (.inl none) μ n) : x_V S 69 37 L ([]) μ n Q := x_return d69_37 rfl h
theorem mC_70 : mC 70 = prog_1_method_2_code := rfl
theorem d70_0 : decode (mC 70) 0 = .ok (.iload_n 1, 1) := by rw [mC_70]; decide +kernel
theorem d70_1 : decode (mC 70) 1 = .ok (.invokestatic 30, 3) := by rw [mC_70]; decide +kernel
theorem d70_4 : decode (mC 70) 4 = .ok (.ifCond .eq 34, 3) := by rw [mC_70]; decide +kernel
theorem d70_7 : decode (mC 70) 7 = .ok (.iload_n 2, 1) := by rw [mC_70]; decide +kernel
theorem d70_8 : decode (mC 70) 8 = .ok (.invokestatic 36, 3) := by rw [mC_70]; decide +kernel
theorem d70_11 : decode (mC 70) 11 = .ok (.ifCond .eq 27, 3) := by rw [mC_70]; decide +kernel
theorem d70_14 : decode (mC 70) 14 = .ok (.iload 4, 2) := by rw [mC_70]; decide +kernel
theorem d70_16 : decode (mC 70) 16 = .ok (.invokestatic 36, 3) := by rw [mC_70]; decide +kernel
theorem d70_19 : decode (mC 70) 19 = .ok (.ifCond .eq 19, 3) := by rw [mC_70]; decide +kernel
theorem d70_22 : decode (mC 70) 22 = .ok (.iload 5, 2) := by rw [mC_70]; decide +kernel
theorem d70_24 : decode (mC 70) 24 = .ok (.invokestatic 36, 3) := by rw [mC_70]; decide +kernel
theorem d70_27 : decode (mC 70) 27 = .ok (.ifCond .eq 11, 3) := by rw [mC_70]; decide +kernel
theorem d70_30 : decode (mC 70) 30 = .ok (.iload 6, 2) := by rw [mC_70]; decide +kernel
theorem d70_32 : decode (mC 70) 32 = .ok (.invokestatic 36, 3) := by rw [mC_70]; decide +kernel
theorem d70_35 : decode (mC 70) 35 = .ok (.ifCond .ne 11, 3) := by rw [mC_70]; decide +kernel
theorem d70_38 : decode (mC 70) 38 = .ok (.new 39, 3) := by rw [mC_70]; decide +kernel
theorem d70_41 : decode (mC 70) 41 = .ok (.dup, 1) := by rw [mC_70]; decide +kernel
theorem d70_42 : decode (mC 70) 42 = .ok (.invokespecial 41, 3) := by rw [mC_70]; decide +kernel
theorem d70_45 : decode (mC 70) 45 = .ok (.athrow, 1) := by rw [mC_70]; decide +kernel
theorem d70_46 : decode (mC 70) 46 = .ok (.aload_n 0, 1) := by rw [mC_70]; decide +kernel
theorem d70_47 : decode (mC 70) 47 = .ok (.getfield 26, 3) := by rw [mC_70]; decide +kernel
theorem d70_50 : decode (mC 70) 50 = .ok (.getfield 42, 3) := by rw [mC_70]; decide +kernel
theorem d70_53 : decode (mC 70) 53 = .ok (.invokevirtual 46, 3) := by rw [mC_70]; decide +kernel
theorem d70_56 : decode (mC 70) 56 = .ok (.aload_n 0, 1) := by rw [mC_70]; decide +kernel
theorem d70_57 : decode (mC 70) 57 = .ok (.getfield 19, 3) := by rw [mC_70]; decide +kernel
theorem d70_60 : decode (mC 70) 60 = .ok (.iload_n 1, 1) := by rw [mC_70]; decide +kernel
theorem d70_61 : decode (mC 70) 61 = .ok (.iload_n 2, 1) := by rw [mC_70]; decide +kernel
theorem d70_62 : decode (mC 70) 62 = .ok (.iload_n 3, 1) := by rw [mC_70]; decide +kernel
theorem d70_63 : decode (mC 70) 63 = .ok (.invokevirtual 51, 3) := by rw [mC_70]; decide +kernel
theorem d70_66 : decode (mC 70) 66 = .ok (.aload_n 0, 1) := by rw [mC_70]; decide +kernel
theorem d70_67 : decode (mC 70) 67 = .ok (.getfield 19, 3) := by rw [mC_70]; decide +kernel
theorem d70_70 : decode (mC 70) 70 = .ok (.iload_n 1, 1) := by rw [mC_70]; decide +kernel
theorem d70_71 : decode (mC 70) 71 = .ok (.bipush 48, 2) := by rw [mC_70]; decide +kernel
theorem d70_73 : decode (mC 70) 73 = .ok (.if_icmp .ne 12, 3) := by rw [mC_70]; decide +kernel
theorem d70_76 : decode (mC 70) 76 = .ok (.iload 4, 2) := by rw [mC_70]; decide +kernel
theorem d70_78 : decode (mC 70) 78 = .ok (.ifCond .ne 7, 3) := by rw [mC_70]; decide +kernel
theorem d70_81 : decode (mC 70) 81 = .ok (.iconst (-1), 1) := by rw [mC_70]; decide +kernel
theorem d70_82 : decode (mC 70) 82 = .ok (.goto 5, 3) := by rw [mC_70]; decide +kernel
theorem d70_85 : decode (mC 70) 85 = .ok (.iload 4, 2) := by rw [mC_70]; decide +kernel
theorem d70_87 : decode (mC 70) 87 = .ok (.iload 5, 2) := by rw [mC_70]; decide +kernel
theorem d70_89 : decode (mC 70) 89 = .ok (.iload 6, 2) := by rw [mC_70]; decide +kernel
theorem d70_91 : decode (mC 70) 91 = .ok (.iconst 0, 1) := by rw [mC_70]; decide +kernel
theorem d70_92 : decode (mC 70) 92 = .ok (.invokevirtual 55, 3) := by rw [mC_70]; decide +kernel
theorem d70_95 : decode (mC 70) 95 = .ok (.aload_n 0, 1) := by rw [mC_70]; decide +kernel
theorem d70_96 : decode (mC 70) 96 = .ok (.getfield 19, 3) := by rw [mC_70]; decide +kernel
theorem d70_99 : decode (mC 70) 99 = .ok (.aload_n 0, 1) := by rw [mC_70]; decide +kernel
theorem d70_100 : decode (mC 70) 100 = .ok (.getfield 10, 3) := by rw [mC_70]; decide +kernel
theorem d70_103 : decode (mC 70) 103 = .ok (.getfield 59, 3) := by rw [mC_70]; decide +kernel
theorem d70_106 : decode (mC 70) 106 = .ok (.invokevirtual 63, 3) := by rw [mC_70]; decide +kernel
theorem d70_109 : decode (mC 70) 109 = .ok (.aload_n 0, 1) := by rw [mC_70]; decide +kernel
theorem d70_110 : decode (mC 70) 110 = .ok (.getfield 10, 3) := by rw [mC_70]; decide +kernel
theorem d70_113 : decode (mC 70) 113 = .ok (.getfield 59, 3) := by rw [mC_70]; decide +kernel
theorem d70_116 : decode (mC 70) 116 = .ok (.getfield 67, 3) := by rw [mC_70]; decide +kernel
theorem d70_119 : decode (mC 70) 119 = .ok (.ireturn, 1) := by rw [mC_70]; decide +kernel
theorem s70_0 {S : Nat × (Nat → Int32)} {L : List (Option Value)} {st : List Value} {n : Nat} {Q : xQ} {μ : xM} {x : Int32} (hl : L[1]? = some (some (.int x))) (h : x_V S 70 1 L (.int x :: st) μ n Q) : x_V S 70 0 L (st) μ n Q := x_iload_n d70_0 hl h
theorem s70_1 {S : Nat × (Nat → Int32)} {L : List (Option Value)} {st : List Value} {n : Nat} {Q : xQ} {μ : xM} {x0 : Int32} (hst : st.length ≤ 4) (h : x_V S 1 0 [some (.int x0)] [] μ n (x_bk S 70 1 L st Q)) : x_V S 70 1 L (.int x0 :: st) μ n Q := x_callS (k' := 1) (as := [.int x0]) (na := 1) d70_1 ⟨w296, by decide +kernel, by decide, by decide, by decide, by decide, by decide⟩ w294 w295 w11 (by decide +kernel) rfl (fun v hv => by
    simp only [List.mem_cons, List.not_mem_nil, or_false] at hv
    rcases hv with rfl <;> first | rfl | assumption) hst h
theorem s70_4 {S : Nat × (Nat → Int32)} {L : List (Option Value)} {st : List Value} {n : Nat} {Q : xQ} {μ : xM} {x : Int} (hx : ib x) (kt : x = 0 → x_V S 70 38 L (st) μ n Q) (kf : x ≠ 0 → x_V S 70 7 L (st) μ n Q) : x_V S 70 4 L (.int (I x) :: st) μ n Q := v_if_eq d70_4 (by decide) hx kt kf
theorem s70_7 {S : Nat × (Nat → Int32)} {L : List (Option Value)} {st : List Value} {n : Nat} {Q : xQ} {μ : xM} {x : Int32} (hl : L[2]? = some (some (.int x))) (h : x_V S 70 8 L (.int x :: st) μ n Q) : x_V S 70 7 L (st) μ n Q := x_iload_n d70_7 hl h
theorem s70_8 {S : Nat × (Nat → Int32)} {L : List (Option Value)} {st : List Value} {n : Nat} {Q : xQ} {μ : xM} {x0 : Int32} (hst : st.length ≤ 4) (h : x_V S 82 0 [some (.int x0)] [] μ n (x_bk S 70 8 L st Q)) : x_V S 70 8 L (.int x0 :: st) μ n Q := x_callS (k' := 82) (as := [.int x0]) (na := 1) d70_8 ⟨w304, by decide +kernel, by decide, by decide, by decide, by decide, by decide⟩ w302 w303 w1 (by decide +kernel) rfl (fun v hv => by
    simp only [List.mem_cons, List.not_mem_nil, or_false] at hv
    rcases hv with rfl <;> first | rfl | assumption) hst h
theorem s70_11 {S : Nat × (Nat → Int32)} {L : List (Option Value)} {st : List Value} {n : Nat} {Q : xQ} {μ : xM} {x : Int} (hx : ib x) (kt : x = 0 → x_V S 70 38 L (st) μ n Q) (kf : x ≠ 0 → x_V S 70 14 L (st) μ n Q) : x_V S 70 11 L (.int (I x) :: st) μ n Q := v_if_eq d70_11 (by decide) hx kt kf
theorem s70_14 {S : Nat × (Nat → Int32)} {L : List (Option Value)} {st : List Value} {n : Nat} {Q : xQ} {μ : xM} {x : Int32} (hl : L[4]? = some (some (.int x))) (h : x_V S 70 16 L (.int x :: st) μ n Q) : x_V S 70 14 L (st) μ n Q := x_iload d70_14 hl h
theorem s70_16 {S : Nat × (Nat → Int32)} {L : List (Option Value)} {st : List Value} {n : Nat} {Q : xQ} {μ : xM} {x0 : Int32} (hst : st.length ≤ 4) (h : x_V S 82 0 [some (.int x0)] [] μ n (x_bk S 70 16 L st Q)) : x_V S 70 16 L (.int x0 :: st) μ n Q := x_callS (k' := 82) (as := [.int x0]) (na := 1) d70_16 ⟨w304, by decide +kernel, by decide, by decide, by decide, by decide, by decide⟩ w302 w303 w1 (by decide +kernel) rfl (fun v hv => by
    simp only [List.mem_cons, List.not_mem_nil, or_false] at hv
    rcases hv with rfl <;> first | rfl | assumption) hst h
theorem s70_19 {S : Nat × (Nat → Int32)} {L : List (Option Value)} {st : List Value} {n : Nat} {Q : xQ} {μ : xM} {x : Int} (hx : ib x) (kt : x = 0 → x_V S 70 38 L (st) μ n Q) (kf : x ≠ 0 → x_V S 70 22 L (st) μ n Q) : x_V S 70 19 L (.int (I x) :: st) μ n Q := v_if_eq d70_19 (by decide) hx kt kf
theorem s70_22 {S : Nat × (Nat → Int32)} {L : List (Option Value)} {st : List Value} {n : Nat} {Q : xQ} {μ : xM} {x : Int32} (hl : L[5]? = some (some (.int x))) (h : x_V S 70 24 L (.int x :: st) μ n Q) : x_V S 70 22 L (st) μ n Q := x_iload d70_22 hl h
theorem s70_24 {S : Nat × (Nat → Int32)} {L : List (Option Value)} {st : List Value} {n : Nat} {Q : xQ} {μ : xM} {x0 : Int32} (hst : st.length ≤ 4) (h : x_V S 82 0 [some (.int x0)] [] μ n (x_bk S 70 24 L st Q)) : x_V S 70 24 L (.int x0 :: st) μ n Q := x_callS (k' := 82) (as := [.int x0]) (na := 1) d70_24 ⟨w304, by decide +kernel, by decide, by decide, by decide, by decide, by decide⟩ w302 w303 w1 (by decide +kernel) rfl (fun v hv => by
    simp only [List.mem_cons, List.not_mem_nil, or_false] at hv
    rcases hv with rfl <;> first | rfl | assumption) hst h
theorem s70_27 {S : Nat × (Nat → Int32)} {L : List (Option Value)} {st : List Value} {n : Nat} {Q : xQ} {μ : xM} {x : Int} (hx : ib x) (kt : x = 0 → x_V S 70 38 L (st) μ n Q) (kf : x ≠ 0 → x_V S 70 30 L (st) μ n Q) : x_V S 70 27 L (.int (I x) :: st) μ n Q := v_if_eq d70_27 (by decide) hx kt kf
theorem s70_30 {S : Nat × (Nat → Int32)} {L : List (Option Value)} {st : List Value} {n : Nat} {Q : xQ} {μ : xM} {x : Int32} (hl : L[6]? = some (some (.int x))) (h : x_V S 70 32 L (.int x :: st) μ n Q) : x_V S 70 30 L (st) μ n Q := x_iload d70_30 hl h
theorem s70_32 {S : Nat × (Nat → Int32)} {L : List (Option Value)} {st : List Value} {n : Nat} {Q : xQ} {μ : xM} {x0 : Int32} (hst : st.length ≤ 4) (h : x_V S 82 0 [some (.int x0)] [] μ n (x_bk S 70 32 L st Q)) : x_V S 70 32 L (.int x0 :: st) μ n Q := x_callS (k' := 82) (as := [.int x0]) (na := 1) d70_32 ⟨w304, by decide +kernel, by decide, by decide, by decide, by decide, by decide⟩ w302 w303 w1 (by decide +kernel) rfl (fun v hv => by
    simp only [List.mem_cons, List.not_mem_nil, or_false] at hv
    rcases hv with rfl <;> first | rfl | assumption) hst h
theorem s70_35 {S : Nat × (Nat → Int32)} {L : List (Option Value)} {st : List Value} {n : Nat} {Q : xQ} {μ : xM} {x : Int} (hx : ib x) (kt : x ≠ 0 → x_V S 70 46 L (st) μ n Q) (kf : x = 0 → x_V S 70 38 L (st) μ n Q) : x_V S 70 35 L (.int (I x) :: st) μ n Q := v_if_ne d70_35 (by decide) hx kt kf
theorem s70_38 {S : Nat × (Nat → Int32)} {L : List (Option Value)} {st : List Value} {n : Nat} {Q : xQ} {μ : xM}  (hsh : x_sh n = (99, 6)) (hn : n < x_NM) (hst : st.length ≤ 4) (h : Q (.inr 0) μ (n + 1)) : x_V S 70 38 L (st) μ n Q := x_throw (x := 0) (names := ["java/lang/RuntimeException", "java/lang/Exception"]) d70_38 d70_41 d70_42 d70_45 w306 w307 w15 (by decide +kernel) (by decide +kernel) ta_0 rfl hsh hn (by decide) (by decide) hst h
theorem s70_46 {S : Nat × (Nat → Int32)} {L : List (Option Value)} {st : List Value} {n : Nat} {Q : xQ} {μ : xM} {a : Nat} (hl : L[0]? = some (some (.ref a))) (h : x_V S 70 47 L (.ref a :: st) μ n Q) : x_V S 70 46 L (st) μ n Q := x_aload_n d70_46 hl h
theorem s70_46N {S : Nat × (Nat → Int32)} {L : List (Option Value)} {st : List Value} {n : Nat} {Q : xQ} {μ : xM} (hl : L[0]? = some (some .null)) (h : x_V S 70 47 L (.null :: st) μ n Q) : x_V S 70 46 L st μ n Q := x_aload_nN d70_46 hl h
theorem s70_47 {S : Nat × (Nat → Int32)} {L : List (Option Value)} {st : List Value} {n : Nat} {Q : xQ} {g : Nat → Nat → Int} {a : Nat} {v : Value} (hs : x_sh a = (0, 3)) (hp : x_pt a 2 = some v) (h : x_V S 70 50 L (v :: st) (x_vm g) n Q) : x_V S 70 47 L (.ref a :: st) (x_vm g) n Q := v_getp (i := 2) cf0 d70_47 (by decide) w225 hs hp h
theorem s70_50 {S : Nat × (Nat → Int32)} {L : List (Option Value)} {st : List Value} {n : Nat} {Q : xQ} {g : Nat → Nat → Int} {a : Nat} {v : Value} (hs : x_sh a = (4, 12)) (hp : x_pt a 0 = some v) (h : x_V S 70 53 L (v :: st) (x_vm g) n Q) : x_V S 70 50 L (.ref a :: st) (x_vm g) n Q := v_getp (i := 0) cf4 d70_50 (by decide) w179 hs hp h
theorem s70_53 {S : Nat × (Nat → Int32)} {L : List (Option Value)} {st : List Value} {n : Nat} {Q : xQ} {μ : xM}  {a : Nat} (hs : x_sh a = (5, 3)) (hst : st.length ≤ 4) (h : x_V S 38 0 [some (.ref a)] [] μ n (x_bk S 70 53 L st Q)) : x_V S 70 53 L (.ref a :: st) μ n Q := x_callV (k' := 38) (as := []) (na := 0) d70_53 ⟨w240, by decide +kernel, by decide, by decide, by decide, by decide, by decide⟩ cf5 w237 w238 w239 (by decide +kernel) rfl hs (fun v hv => by
    cases hv) hst h
theorem s70_56 {S : Nat × (Nat → Int32)} {L : List (Option Value)} {st : List Value} {n : Nat} {Q : xQ} {μ : xM} {a : Nat} (hl : L[0]? = some (some (.ref a))) (h : x_V S 70 57 L (.ref a :: st) μ n Q) : x_V S 70 56 L (st) μ n Q := x_aload_n d70_56 hl h
theorem s70_56N {S : Nat × (Nat → Int32)} {L : List (Option Value)} {st : List Value} {n : Nat} {Q : xQ} {μ : xM} (hl : L[0]? = some (some .null)) (h : x_V S 70 57 L (.null :: st) μ n Q) : x_V S 70 56 L st μ n Q := x_aload_nN d70_56 hl h
theorem s70_57 {S : Nat × (Nat → Int32)} {L : List (Option Value)} {st : List Value} {n : Nat} {Q : xQ} {g : Nat → Nat → Int} {a : Nat} {v : Value} (hs : x_sh a = (0, 3)) (hp : x_pt a 1 = some v) (h : x_V S 70 60 L (v :: st) (x_vm g) n Q) : x_V S 70 57 L (.ref a :: st) (x_vm g) n Q := v_getp (i := 1) cf0 d70_57 (by decide) w224 hs hp h
theorem s70_60 {S : Nat × (Nat → Int32)} {L : List (Option Value)} {st : List Value} {n : Nat} {Q : xQ} {μ : xM} {x : Int32} (hl : L[1]? = some (some (.int x))) (h : x_V S 70 61 L (.int x :: st) μ n Q) : x_V S 70 60 L (st) μ n Q := x_iload_n d70_60 hl h
theorem s70_61 {S : Nat × (Nat → Int32)} {L : List (Option Value)} {st : List Value} {n : Nat} {Q : xQ} {μ : xM} {x : Int32} (hl : L[2]? = some (some (.int x))) (h : x_V S 70 62 L (.int x :: st) μ n Q) : x_V S 70 61 L (st) μ n Q := x_iload_n d70_61 hl h
theorem s70_62 {S : Nat × (Nat → Int32)} {L : List (Option Value)} {st : List Value} {n : Nat} {Q : xQ} {μ : xM} {x : Int32} (hl : L[3]? = some (some (.int x))) (h : x_V S 70 63 L (.int x :: st) μ n Q) : x_V S 70 62 L (st) μ n Q := x_iload_n d70_62 hl h
theorem s70_63 {S : Nat × (Nat → Int32)} {L : List (Option Value)} {st : List Value} {n : Nat} {Q : xQ} {μ : xM} {x0 : Int32} {x1 : Int32} {x2 : Int32} {a : Nat} (hs : x_sh a = (3, 4)) (hst : st.length ≤ 4) (h : x_V S 22 0 [some (.ref a), some (.int x0), some (.int x1), some (.int x2)] [] μ n (x_bk S 70 63 L st Q)) : x_V S 70 63 L (.int x2 :: .int x1 :: .int x0 :: .ref a :: st) μ n Q := x_callV (k' := 22) (as := [.int x0, .int x1, .int x2]) (na := 3) d70_63 ⟨w264, by decide +kernel, by decide, by decide, by decide, by decide, by decide⟩ cf3 w370 w262 w263 (by decide +kernel) rfl hs (fun v hv => by
    simp only [List.mem_cons, List.not_mem_nil, or_false] at hv
    rcases hv with rfl | rfl | rfl <;> first | rfl | assumption) hst h
theorem s70_66 {S : Nat × (Nat → Int32)} {L : List (Option Value)} {st : List Value} {n : Nat} {Q : xQ} {μ : xM} {a : Nat} (hl : L[0]? = some (some (.ref a))) (h : x_V S 70 67 L (.ref a :: st) μ n Q) : x_V S 70 66 L (st) μ n Q := x_aload_n d70_66 hl h
theorem s70_66N {S : Nat × (Nat → Int32)} {L : List (Option Value)} {st : List Value} {n : Nat} {Q : xQ} {μ : xM} (hl : L[0]? = some (some .null)) (h : x_V S 70 67 L (.null :: st) μ n Q) : x_V S 70 66 L st μ n Q := x_aload_nN d70_66 hl h
theorem s70_67 {S : Nat × (Nat → Int32)} {L : List (Option Value)} {st : List Value} {n : Nat} {Q : xQ} {g : Nat → Nat → Int} {a : Nat} {v : Value} (hs : x_sh a = (0, 3)) (hp : x_pt a 1 = some v) (h : x_V S 70 70 L (v :: st) (x_vm g) n Q) : x_V S 70 67 L (.ref a :: st) (x_vm g) n Q := v_getp (i := 1) cf0 d70_67 (by decide) w224 hs hp h
theorem s70_70 {S : Nat × (Nat → Int32)} {L : List (Option Value)} {st : List Value} {n : Nat} {Q : xQ} {μ : xM} {x : Int32} (hl : L[1]? = some (some (.int x))) (h : x_V S 70 71 L (.int x :: st) μ n Q) : x_V S 70 70 L (st) μ n Q := x_iload_n d70_70 hl h
theorem s70_71 {S : Nat × (Nat → Int32)} {L : List (Option Value)} {st : List Value} {n : Nat} {Q : xQ} {μ : xM}  (h : x_V S 70 73 L (.int (I 48) :: st) μ n Q) : x_V S 70 71 L (st) μ n Q := x_bipush (by decide +kernel) d70_71 h
theorem s70_73 {S : Nat × (Nat → Int32)} {L : List (Option Value)} {st : List Value} {n : Nat} {Q : xQ} {μ : xM} {x y : Int} (hx : ib x) (hy : ib y) (kt : x ≠ y → x_V S 70 85 L (st) μ n Q) (kf : x = y → x_V S 70 76 L (st) μ n Q) : x_V S 70 73 L (.int (I y) :: .int (I x) :: st) μ n Q := v_icmp_ne d70_73 (by decide) hx hy kt kf
theorem s70_76 {S : Nat × (Nat → Int32)} {L : List (Option Value)} {st : List Value} {n : Nat} {Q : xQ} {μ : xM} {x : Int32} (hl : L[4]? = some (some (.int x))) (h : x_V S 70 78 L (.int x :: st) μ n Q) : x_V S 70 76 L (st) μ n Q := x_iload d70_76 hl h
theorem s70_78 {S : Nat × (Nat → Int32)} {L : List (Option Value)} {st : List Value} {n : Nat} {Q : xQ} {μ : xM} {x : Int} (hx : ib x) (kt : x ≠ 0 → x_V S 70 85 L (st) μ n Q) (kf : x = 0 → x_V S 70 81 L (st) μ n Q) : x_V S 70 78 L (.int (I x) :: st) μ n Q := v_if_ne d70_78 (by decide) hx kt kf
theorem s70_81 {S : Nat × (Nat → Int32)} {L : List (Option Value)} {st : List Value} {n : Nat} {Q : xQ} {μ : xM}  (h : x_V S 70 82 L (.int (I (-1)) :: st) μ n Q) : x_V S 70 81 L (st) μ n Q := x_iconst (by decide +kernel) d70_81 h
theorem s70_82 {S : Nat × (Nat → Int32)} {L : List (Option Value)} {st : List Value} {n : Nat} {Q : xQ} {μ : xM}  (h : x_V S 70 87 L (st) μ n Q) : x_V S 70 82 L (st) μ n Q := x_goto (tgt := 87) (by decide) d70_82 h
theorem s70_85 {S : Nat × (Nat → Int32)} {L : List (Option Value)} {st : List Value} {n : Nat} {Q : xQ} {μ : xM} {x : Int32} (hl : L[4]? = some (some (.int x))) (h : x_V S 70 87 L (.int x :: st) μ n Q) : x_V S 70 85 L (st) μ n Q := x_iload d70_85 hl h
theorem s70_87 {S : Nat × (Nat → Int32)} {L : List (Option Value)} {st : List Value} {n : Nat} {Q : xQ} {μ : xM} {x : Int32} (hl : L[5]? = some (some (.int x))) (h : x_V S 70 89 L (.int x :: st) μ n Q) : x_V S 70 87 L (st) μ n Q := x_iload d70_87 hl h
theorem s70_89 {S : Nat × (Nat → Int32)} {L : List (Option Value)} {st : List Value} {n : Nat} {Q : xQ} {μ : xM} {x : Int32} (hl : L[6]? = some (some (.int x))) (h : x_V S 70 91 L (.int x :: st) μ n Q) : x_V S 70 89 L (st) μ n Q := x_iload d70_89 hl h
theorem s70_91 {S : Nat × (Nat → Int32)} {L : List (Option Value)} {st : List Value} {n : Nat} {Q : xQ} {μ : xM}  (h : x_V S 70 92 L (.int (I 0) :: st) μ n Q) : x_V S 70 91 L (st) μ n Q := x_iconst (by decide +kernel) d70_91 h
theorem s70_92 {S : Nat × (Nat → Int32)} {L : List (Option Value)} {st : List Value} {n : Nat} {Q : xQ} {μ : xM} {x0 : Int32} {x1 : Int32} {x2 : Int32} {x3 : Int32} {a : Nat} (hs : x_sh a = (3, 4)) (hst : st.length ≤ 4) (h : x_V S 23 0 [some (.ref a), some (.int x0), some (.int x1), some (.int x2), some (.int x3)] [] μ n (x_bk S 70 92 L st Q)) : x_V S 70 92 L (.int x3 :: .int x2 :: .int x1 :: .int x0 :: .ref a :: st) μ n Q := x_callV (k' := 23) (as := [.int x0, .int x1, .int x2, .int x3]) (na := 4) d70_92 ⟨w268, by decide +kernel, by decide, by decide, by decide, by decide, by decide⟩ cf3 w371 w266 w267 (by decide +kernel) rfl hs (fun v hv => by
    simp only [List.mem_cons, List.not_mem_nil, or_false] at hv
    rcases hv with rfl | rfl | rfl | rfl <;> first | rfl | assumption) hst h
theorem s70_95 {S : Nat × (Nat → Int32)} {L : List (Option Value)} {st : List Value} {n : Nat} {Q : xQ} {μ : xM} {a : Nat} (hl : L[0]? = some (some (.ref a))) (h : x_V S 70 96 L (.ref a :: st) μ n Q) : x_V S 70 95 L (st) μ n Q := x_aload_n d70_95 hl h
theorem s70_95N {S : Nat × (Nat → Int32)} {L : List (Option Value)} {st : List Value} {n : Nat} {Q : xQ} {μ : xM} (hl : L[0]? = some (some .null)) (h : x_V S 70 96 L (.null :: st) μ n Q) : x_V S 70 95 L st μ n Q := x_aload_nN d70_95 hl h
theorem s70_96 {S : Nat × (Nat → Int32)} {L : List (Option Value)} {st : List Value} {n : Nat} {Q : xQ} {g : Nat → Nat → Int} {a : Nat} {v : Value} (hs : x_sh a = (0, 3)) (hp : x_pt a 1 = some v) (h : x_V S 70 99 L (v :: st) (x_vm g) n Q) : x_V S 70 96 L (.ref a :: st) (x_vm g) n Q := v_getp (i := 1) cf0 d70_96 (by decide) w224 hs hp h
theorem s70_99 {S : Nat × (Nat → Int32)} {L : List (Option Value)} {st : List Value} {n : Nat} {Q : xQ} {μ : xM} {a : Nat} (hl : L[0]? = some (some (.ref a))) (h : x_V S 70 100 L (.ref a :: st) μ n Q) : x_V S 70 99 L (st) μ n Q := x_aload_n d70_99 hl h
theorem s70_99N {S : Nat × (Nat → Int32)} {L : List (Option Value)} {st : List Value} {n : Nat} {Q : xQ} {μ : xM} (hl : L[0]? = some (some .null)) (h : x_V S 70 100 L (.null :: st) μ n Q) : x_V S 70 99 L st μ n Q := x_aload_nN d70_99 hl h
theorem s70_100 {S : Nat × (Nat → Int32)} {L : List (Option Value)} {st : List Value} {n : Nat} {Q : xQ} {g : Nat → Nat → Int} {a : Nat} {v : Value} (hs : x_sh a = (0, 3)) (hp : x_pt a 0 = some v) (h : x_V S 70 103 L (v :: st) (x_vm g) n Q) : x_V S 70 100 L (.ref a :: st) (x_vm g) n Q := v_getp (i := 0) cf0 d70_100 (by decide) w223 hs hp h
theorem s70_103 {S : Nat × (Nat → Int32)} {L : List (Option Value)} {st : List Value} {n : Nat} {Q : xQ} {g : Nat → Nat → Int} {a : Nat} {v : Value} (hs : x_sh a = (1, 2)) (hp : x_pt a 0 = some v) (h : x_V S 70 106 L (v :: st) (x_vm g) n Q) : x_V S 70 103 L (.ref a :: st) (x_vm g) n Q := v_getp (i := 0) cf1 d70_103 (by decide) w52 hs hp h
theorem s70_106 {S : Nat × (Nat → Int32)} {L : List (Option Value)} {st : List Value} {n : Nat} {Q : xQ} {μ : xM} {v0 : Value} (hc0 : v0.category = 1) {a : Nat} (hs : x_sh a = (3, 4)) (hst : st.length ≤ 4) (h : x_V S 25 0 [some (.ref a), some (v0), none, none] [] μ n (x_bk S 70 106 L st Q)) : x_V S 70 106 L (v0 :: .ref a :: st) μ n Q := x_callV (k' := 25) (as := [v0]) (na := 1) d70_106 ⟨w375, by decide +kernel, by decide, by decide, by decide, by decide, by decide⟩ cf3 w372 w373 w374 (by decide +kernel) rfl hs (fun v hv => by
    simp only [List.mem_cons, List.not_mem_nil, or_false] at hv
    rcases hv with rfl <;> first | rfl | assumption) hst h
theorem s70_109 {S : Nat × (Nat → Int32)} {L : List (Option Value)} {st : List Value} {n : Nat} {Q : xQ} {μ : xM} {a : Nat} (hl : L[0]? = some (some (.ref a))) (h : x_V S 70 110 L (.ref a :: st) μ n Q) : x_V S 70 109 L (st) μ n Q := x_aload_n d70_109 hl h
theorem s70_109N {S : Nat × (Nat → Int32)} {L : List (Option Value)} {st : List Value} {n : Nat} {Q : xQ} {μ : xM} (hl : L[0]? = some (some .null)) (h : x_V S 70 110 L (.null :: st) μ n Q) : x_V S 70 109 L st μ n Q := x_aload_nN d70_109 hl h
theorem s70_110 {S : Nat × (Nat → Int32)} {L : List (Option Value)} {st : List Value} {n : Nat} {Q : xQ} {g : Nat → Nat → Int} {a : Nat} {v : Value} (hs : x_sh a = (0, 3)) (hp : x_pt a 0 = some v) (h : x_V S 70 113 L (v :: st) (x_vm g) n Q) : x_V S 70 110 L (.ref a :: st) (x_vm g) n Q := v_getp (i := 0) cf0 d70_110 (by decide) w223 hs hp h
theorem s70_113 {S : Nat × (Nat → Int32)} {L : List (Option Value)} {st : List Value} {n : Nat} {Q : xQ} {g : Nat → Nat → Int} {a : Nat} {v : Value} (hs : x_sh a = (1, 2)) (hp : x_pt a 0 = some v) (h : x_V S 70 116 L (v :: st) (x_vm g) n Q) : x_V S 70 113 L (.ref a :: st) (x_vm g) n Q := v_getp (i := 0) cf1 d70_113 (by decide) w52 hs hp h
theorem s70_116 {S : Nat × (Nat → Int32)} {L : List (Option Value)} {st : List Value} {n : Nat} {Q : xQ} {g : Nat → Nat → Int} {a : Nat} (hs : x_sh a = (2, 2)) (hp : x_pt a 1 = none) (ha : a ≠ x_out) (h : x_V S 70 119 L (.int (I (g a 1)) :: st) (x_vm g) n Q) : x_V S 70 116 L (.ref a :: st) (x_vm g) n Q := v_get (i := 1) cf2 d70_116 (by decide) w42 hs hp ha h
theorem s70_119 {S : Nat × (Nat → Int32)} {L : List (Option Value)} {st : List Value} {n : Nat} {Q : xQ} {μ : xM} {x : Int32} (h : Q (.inl (some (.int x))) μ n) : x_V S 70 119 L (.int x :: []) μ n Q := x_ireturn d70_119 rfl rfl h
theorem mC_71 : mC 71 = prog_1_method_3_code := rfl
theorem d71_0 : decode (mC 71) 0 = .ok (.aload_n 0, 1) := by rw [mC_71]; decide +kernel
theorem d71_1 : decode (mC 71) 1 = .ok (.getfield 10, 3) := by rw [mC_71]; decide +kernel
theorem d71_4 : decode (mC 71) 4 = .ok (.getfield 59, 3) := by rw [mC_71]; decide +kernel
theorem d71_7 : decode (mC 71) 7 = .ok (.iload_n 1, 1) := by rw [mC_71]; decide +kernel
theorem d71_8 : decode (mC 71) 8 = .ok (.invokevirtual 73, 3) := by rw [mC_71]; decide +kernel
theorem d71_11 : decode (mC 71) 11 = .ok (.ifCond .ne 11, 3) := by rw [mC_71]; decide +kernel
theorem d71_14 : decode (mC 71) 14 = .ok (.new 76, 3) := by rw [mC_71]; decide +kernel
theorem d71_17 : decode (mC 71) 17 = .ok (.dup, 1) := by rw [mC_71]; decide +kernel
theorem d71_18 : decode (mC 71) 18 = .ok (.invokespecial 78, 3) := by rw [mC_71]; decide +kernel
theorem d71_21 : decode (mC 71) 21 = .ok (.athrow, 1) := by rw [mC_71]; decide +kernel
theorem d71_22 : decode (mC 71) 22 = .ok (.iload_n 2, 1) := by rw [mC_71]; decide +kernel
theorem d71_23 : decode (mC 71) 23 = .ok (.iconst 1, 1) := by rw [mC_71]; decide +kernel
theorem d71_24 : decode (mC 71) 24 = .ok (.if_icmp .lt 9, 3) := by rw [mC_71]; decide +kernel
theorem d71_27 : decode (mC 71) 27 = .ok (.iload_n 2, 1) := by rw [mC_71]; decide +kernel
theorem d71_28 : decode (mC 71) 28 = .ok (.bipush 127, 2) := by rw [mC_71]; decide +kernel
theorem d71_30 : decode (mC 71) 30 = .ok (.if_icmp .le 11, 3) := by rw [mC_71]; decide +kernel
theorem d71_33 : decode (mC 71) 33 = .ok (.new 39, 3) := by rw [mC_71]; decide +kernel
theorem d71_36 : decode (mC 71) 36 = .ok (.dup, 1) := by rw [mC_71]; decide +kernel
theorem d71_37 : decode (mC 71) 37 = .ok (.invokespecial 41, 3) := by rw [mC_71]; decide +kernel
theorem d71_40 : decode (mC 71) 40 = .ok (.athrow, 1) := by rw [mC_71]; decide +kernel
theorem d71_41 : decode (mC 71) 41 = .ok (.aload_n 0, 1) := by rw [mC_71]; decide +kernel
theorem d71_42 : decode (mC 71) 42 = .ok (.getfield 26, 3) := by rw [mC_71]; decide +kernel
theorem d71_45 : decode (mC 71) 45 = .ok (.getfield 42, 3) := by rw [mC_71]; decide +kernel
theorem d71_48 : decode (mC 71) 48 = .ok (.invokevirtual 46, 3) := by rw [mC_71]; decide +kernel
theorem d71_51 : decode (mC 71) 51 = .ok (.aload_n 0, 1) := by rw [mC_71]; decide +kernel
theorem d71_52 : decode (mC 71) 52 = .ok (.getfield 10, 3) := by rw [mC_71]; decide +kernel
theorem d71_55 : decode (mC 71) 55 = .ok (.getfield 59, 3) := by rw [mC_71]; decide +kernel
theorem d71_58 : decode (mC 71) 58 = .ok (.iload_n 1, 1) := by rw [mC_71]; decide +kernel
theorem d71_59 : decode (mC 71) 59 = .ok (.aload_n 0, 1) := by rw [mC_71]; decide +kernel
theorem d71_60 : decode (mC 71) 60 = .ok (.getfield 10, 3) := by rw [mC_71]; decide +kernel
theorem d71_63 : decode (mC 71) 63 = .ok (.getfield 59, 3) := by rw [mC_71]; decide +kernel
theorem d71_66 : decode (mC 71) 66 = .ok (.iload_n 1, 1) := by rw [mC_71]; decide +kernel
theorem d71_67 : decode (mC 71) 67 = .ok (.invokevirtual 79, 3) := by rw [mC_71]; decide +kernel
theorem d71_70 : decode (mC 71) 70 = .ok (.iload_n 2, 1) := by rw [mC_71]; decide +kernel
theorem d71_71 : decode (mC 71) 71 = .ok (.ixor, 1) := by rw [mC_71]; decide +kernel
theorem d71_72 : decode (mC 71) 72 = .ok (.invokevirtual 83, 3) := by rw [mC_71]; decide +kernel
theorem d71_75 : decode (mC 71) 75 = .ok (.aload_n 0, 1) := by rw [mC_71]; decide +kernel
theorem d71_76 : decode (mC 71) 76 = .ok (.getfield 10, 3) := by rw [mC_71]; decide +kernel
theorem d71_79 : decode (mC 71) 79 = .ok (.getfield 59, 3) := by rw [mC_71]; decide +kernel
theorem d71_82 : decode (mC 71) 82 = .ok (.iload_n 1, 1) := by rw [mC_71]; decide +kernel
theorem d71_83 : decode (mC 71) 83 = .ok (.invokevirtual 79, 3) := by rw [mC_71]; decide +kernel
theorem d71_86 : decode (mC 71) 86 = .ok (.ireturn, 1) := by rw [mC_71]; decide +kernel
theorem s71_0 {S : Nat × (Nat → Int32)} {L : List (Option Value)} {st : List Value} {n : Nat} {Q : xQ} {μ : xM} {a : Nat} (hl : L[0]? = some (some (.ref a))) (h : x_V S 71 1 L (.ref a :: st) μ n Q) : x_V S 71 0 L (st) μ n Q := x_aload_n d71_0 hl h
theorem s71_0N {S : Nat × (Nat → Int32)} {L : List (Option Value)} {st : List Value} {n : Nat} {Q : xQ} {μ : xM} (hl : L[0]? = some (some .null)) (h : x_V S 71 1 L (.null :: st) μ n Q) : x_V S 71 0 L st μ n Q := x_aload_nN d71_0 hl h
theorem s71_1 {S : Nat × (Nat → Int32)} {L : List (Option Value)} {st : List Value} {n : Nat} {Q : xQ} {g : Nat → Nat → Int} {a : Nat} {v : Value} (hs : x_sh a = (0, 3)) (hp : x_pt a 0 = some v) (h : x_V S 71 4 L (v :: st) (x_vm g) n Q) : x_V S 71 1 L (.ref a :: st) (x_vm g) n Q := v_getp (i := 0) cf0 d71_1 (by decide) w223 hs hp h
theorem s71_4 {S : Nat × (Nat → Int32)} {L : List (Option Value)} {st : List Value} {n : Nat} {Q : xQ} {g : Nat → Nat → Int} {a : Nat} {v : Value} (hs : x_sh a = (1, 2)) (hp : x_pt a 0 = some v) (h : x_V S 71 7 L (v :: st) (x_vm g) n Q) : x_V S 71 4 L (.ref a :: st) (x_vm g) n Q := v_getp (i := 0) cf1 d71_4 (by decide) w52 hs hp h
theorem s71_7 {S : Nat × (Nat → Int32)} {L : List (Option Value)} {st : List Value} {n : Nat} {Q : xQ} {μ : xM} {x : Int32} (hl : L[1]? = some (some (.int x))) (h : x_V S 71 8 L (.int x :: st) μ n Q) : x_V S 71 7 L (st) μ n Q := x_iload_n d71_7 hl h
theorem s71_8 {S : Nat × (Nat → Int32)} {L : List (Option Value)} {st : List Value} {n : Nat} {Q : xQ} {μ : xM} {x0 : Int32} {a : Nat} (hs : x_sh a = (2, 2)) (hst : st.length ≤ 4) (h : x_V S 8 0 [some (.ref a), some (.int x0)] [] μ n (x_bk S 71 8 L st Q)) : x_V S 71 8 L (.int x0 :: .ref a :: st) μ n Q := x_callV (k' := 8) (as := [.int x0]) (na := 1) d71_8 ⟨w418, by decide +kernel, by decide, by decide, by decide, by decide, by decide⟩ cf2 w435 w416 w417 (by decide +kernel) rfl hs (fun v hv => by
    simp only [List.mem_cons, List.not_mem_nil, or_false] at hv
    rcases hv with rfl <;> first | rfl | assumption) hst h
theorem s71_11 {S : Nat × (Nat → Int32)} {L : List (Option Value)} {st : List Value} {n : Nat} {Q : xQ} {μ : xM} {x : Int} (hx : ib x) (kt : x ≠ 0 → x_V S 71 22 L (st) μ n Q) (kf : x = 0 → x_V S 71 14 L (st) μ n Q) : x_V S 71 11 L (.int (I x) :: st) μ n Q := v_if_ne d71_11 (by decide) hx kt kf
theorem s71_14 {S : Nat × (Nat → Int32)} {L : List (Option Value)} {st : List Value} {n : Nat} {Q : xQ} {μ : xM}  (hsh : x_sh n = (99, 6)) (hn : n < x_NM) (hst : st.length ≤ 4) (h : Q (.inr 2) μ (n + 1)) : x_V S 71 14 L (st) μ n Q := x_throw (x := 2) (names := ["java/lang/RuntimeException", "java/lang/Exception"]) d71_14 d71_17 d71_18 d71_21 w436 w437 w16 (by decide +kernel) (by decide +kernel) ta_2 rfl hsh hn (by decide) (by decide) hst h
theorem s71_22 {S : Nat × (Nat → Int32)} {L : List (Option Value)} {st : List Value} {n : Nat} {Q : xQ} {μ : xM} {x : Int32} (hl : L[2]? = some (some (.int x))) (h : x_V S 71 23 L (.int x :: st) μ n Q) : x_V S 71 22 L (st) μ n Q := x_iload_n d71_22 hl h
theorem s71_23 {S : Nat × (Nat → Int32)} {L : List (Option Value)} {st : List Value} {n : Nat} {Q : xQ} {μ : xM}  (h : x_V S 71 24 L (.int (I 1) :: st) μ n Q) : x_V S 71 23 L (st) μ n Q := x_iconst (by decide +kernel) d71_23 h
theorem s71_24 {S : Nat × (Nat → Int32)} {L : List (Option Value)} {st : List Value} {n : Nat} {Q : xQ} {μ : xM} {x y : Int} (hx : ib x) (hy : ib y) (kt : x < y → x_V S 71 33 L (st) μ n Q) (kf : y ≤ x → x_V S 71 27 L (st) μ n Q) : x_V S 71 24 L (.int (I y) :: .int (I x) :: st) μ n Q := v_icmp_lt d71_24 (by decide) hx hy kt kf
theorem s71_27 {S : Nat × (Nat → Int32)} {L : List (Option Value)} {st : List Value} {n : Nat} {Q : xQ} {μ : xM} {x : Int32} (hl : L[2]? = some (some (.int x))) (h : x_V S 71 28 L (.int x :: st) μ n Q) : x_V S 71 27 L (st) μ n Q := x_iload_n d71_27 hl h
theorem s71_28 {S : Nat × (Nat → Int32)} {L : List (Option Value)} {st : List Value} {n : Nat} {Q : xQ} {μ : xM}  (h : x_V S 71 30 L (.int (I 127) :: st) μ n Q) : x_V S 71 28 L (st) μ n Q := x_bipush (by decide +kernel) d71_28 h
theorem s71_30 {S : Nat × (Nat → Int32)} {L : List (Option Value)} {st : List Value} {n : Nat} {Q : xQ} {μ : xM} {x y : Int} (hx : ib x) (hy : ib y) (kt : x ≤ y → x_V S 71 41 L (st) μ n Q) (kf : y < x → x_V S 71 33 L (st) μ n Q) : x_V S 71 30 L (.int (I y) :: .int (I x) :: st) μ n Q := v_icmp_le d71_30 (by decide) hx hy kt kf
theorem s71_33 {S : Nat × (Nat → Int32)} {L : List (Option Value)} {st : List Value} {n : Nat} {Q : xQ} {μ : xM}  (hsh : x_sh n = (99, 6)) (hn : n < x_NM) (hst : st.length ≤ 4) (h : Q (.inr 0) μ (n + 1)) : x_V S 71 33 L (st) μ n Q := x_throw (x := 0) (names := ["java/lang/RuntimeException", "java/lang/Exception"]) d71_33 d71_36 d71_37 d71_40 w306 w307 w15 (by decide +kernel) (by decide +kernel) ta_0 rfl hsh hn (by decide) (by decide) hst h
theorem s71_41 {S : Nat × (Nat → Int32)} {L : List (Option Value)} {st : List Value} {n : Nat} {Q : xQ} {μ : xM} {a : Nat} (hl : L[0]? = some (some (.ref a))) (h : x_V S 71 42 L (.ref a :: st) μ n Q) : x_V S 71 41 L (st) μ n Q := x_aload_n d71_41 hl h
theorem s71_41N {S : Nat × (Nat → Int32)} {L : List (Option Value)} {st : List Value} {n : Nat} {Q : xQ} {μ : xM} (hl : L[0]? = some (some .null)) (h : x_V S 71 42 L (.null :: st) μ n Q) : x_V S 71 41 L st μ n Q := x_aload_nN d71_41 hl h
theorem s71_42 {S : Nat × (Nat → Int32)} {L : List (Option Value)} {st : List Value} {n : Nat} {Q : xQ} {g : Nat → Nat → Int} {a : Nat} {v : Value} (hs : x_sh a = (0, 3)) (hp : x_pt a 2 = some v) (h : x_V S 71 45 L (v :: st) (x_vm g) n Q) : x_V S 71 42 L (.ref a :: st) (x_vm g) n Q := v_getp (i := 2) cf0 d71_42 (by decide) w225 hs hp h
theorem s71_45 {S : Nat × (Nat → Int32)} {L : List (Option Value)} {st : List Value} {n : Nat} {Q : xQ} {g : Nat → Nat → Int} {a : Nat} {v : Value} (hs : x_sh a = (4, 12)) (hp : x_pt a 0 = some v) (h : x_V S 71 48 L (v :: st) (x_vm g) n Q) : x_V S 71 45 L (.ref a :: st) (x_vm g) n Q := v_getp (i := 0) cf4 d71_45 (by decide) w179 hs hp h
theorem s71_48 {S : Nat × (Nat → Int32)} {L : List (Option Value)} {st : List Value} {n : Nat} {Q : xQ} {μ : xM}  {a : Nat} (hs : x_sh a = (5, 3)) (hst : st.length ≤ 4) (h : x_V S 38 0 [some (.ref a)] [] μ n (x_bk S 71 48 L st Q)) : x_V S 71 48 L (.ref a :: st) μ n Q := x_callV (k' := 38) (as := []) (na := 0) d71_48 ⟨w240, by decide +kernel, by decide, by decide, by decide, by decide, by decide⟩ cf5 w237 w238 w239 (by decide +kernel) rfl hs (fun v hv => by
    cases hv) hst h
theorem s71_51 {S : Nat × (Nat → Int32)} {L : List (Option Value)} {st : List Value} {n : Nat} {Q : xQ} {μ : xM} {a : Nat} (hl : L[0]? = some (some (.ref a))) (h : x_V S 71 52 L (.ref a :: st) μ n Q) : x_V S 71 51 L (st) μ n Q := x_aload_n d71_51 hl h
theorem s71_51N {S : Nat × (Nat → Int32)} {L : List (Option Value)} {st : List Value} {n : Nat} {Q : xQ} {μ : xM} (hl : L[0]? = some (some .null)) (h : x_V S 71 52 L (.null :: st) μ n Q) : x_V S 71 51 L st μ n Q := x_aload_nN d71_51 hl h
theorem s71_52 {S : Nat × (Nat → Int32)} {L : List (Option Value)} {st : List Value} {n : Nat} {Q : xQ} {g : Nat → Nat → Int} {a : Nat} {v : Value} (hs : x_sh a = (0, 3)) (hp : x_pt a 0 = some v) (h : x_V S 71 55 L (v :: st) (x_vm g) n Q) : x_V S 71 52 L (.ref a :: st) (x_vm g) n Q := v_getp (i := 0) cf0 d71_52 (by decide) w223 hs hp h
theorem s71_55 {S : Nat × (Nat → Int32)} {L : List (Option Value)} {st : List Value} {n : Nat} {Q : xQ} {g : Nat → Nat → Int} {a : Nat} {v : Value} (hs : x_sh a = (1, 2)) (hp : x_pt a 0 = some v) (h : x_V S 71 58 L (v :: st) (x_vm g) n Q) : x_V S 71 55 L (.ref a :: st) (x_vm g) n Q := v_getp (i := 0) cf1 d71_55 (by decide) w52 hs hp h
theorem s71_58 {S : Nat × (Nat → Int32)} {L : List (Option Value)} {st : List Value} {n : Nat} {Q : xQ} {μ : xM} {x : Int32} (hl : L[1]? = some (some (.int x))) (h : x_V S 71 59 L (.int x :: st) μ n Q) : x_V S 71 58 L (st) μ n Q := x_iload_n d71_58 hl h
theorem s71_59 {S : Nat × (Nat → Int32)} {L : List (Option Value)} {st : List Value} {n : Nat} {Q : xQ} {μ : xM} {a : Nat} (hl : L[0]? = some (some (.ref a))) (h : x_V S 71 60 L (.ref a :: st) μ n Q) : x_V S 71 59 L (st) μ n Q := x_aload_n d71_59 hl h
theorem s71_59N {S : Nat × (Nat → Int32)} {L : List (Option Value)} {st : List Value} {n : Nat} {Q : xQ} {μ : xM} (hl : L[0]? = some (some .null)) (h : x_V S 71 60 L (.null :: st) μ n Q) : x_V S 71 59 L st μ n Q := x_aload_nN d71_59 hl h
theorem s71_60 {S : Nat × (Nat → Int32)} {L : List (Option Value)} {st : List Value} {n : Nat} {Q : xQ} {g : Nat → Nat → Int} {a : Nat} {v : Value} (hs : x_sh a = (0, 3)) (hp : x_pt a 0 = some v) (h : x_V S 71 63 L (v :: st) (x_vm g) n Q) : x_V S 71 60 L (.ref a :: st) (x_vm g) n Q := v_getp (i := 0) cf0 d71_60 (by decide) w223 hs hp h
theorem s71_63 {S : Nat × (Nat → Int32)} {L : List (Option Value)} {st : List Value} {n : Nat} {Q : xQ} {g : Nat → Nat → Int} {a : Nat} {v : Value} (hs : x_sh a = (1, 2)) (hp : x_pt a 0 = some v) (h : x_V S 71 66 L (v :: st) (x_vm g) n Q) : x_V S 71 63 L (.ref a :: st) (x_vm g) n Q := v_getp (i := 0) cf1 d71_63 (by decide) w52 hs hp h
theorem s71_66 {S : Nat × (Nat → Int32)} {L : List (Option Value)} {st : List Value} {n : Nat} {Q : xQ} {μ : xM} {x : Int32} (hl : L[1]? = some (some (.int x))) (h : x_V S 71 67 L (.int x :: st) μ n Q) : x_V S 71 66 L (st) μ n Q := x_iload_n d71_66 hl h
theorem s71_67 {S : Nat × (Nat → Int32)} {L : List (Option Value)} {st : List Value} {n : Nat} {Q : xQ} {μ : xM} {x0 : Int32} {a : Nat} (hs : x_sh a = (2, 2)) (hst : st.length ≤ 4) (h : x_V S 9 0 [some (.ref a), some (.int x0)] [] μ n (x_bk S 71 67 L st Q)) : x_V S 71 67 L (.int x0 :: .ref a :: st) μ n Q := x_callV (k' := 9) (as := [.int x0]) (na := 1) d71_67 ⟨w454, by decide +kernel, by decide, by decide, by decide, by decide, by decide⟩ cf2 w451 w452 w453 (by decide +kernel) rfl hs (fun v hv => by
    simp only [List.mem_cons, List.not_mem_nil, or_false] at hv
    rcases hv with rfl <;> first | rfl | assumption) hst h
theorem s71_70 {S : Nat × (Nat → Int32)} {L : List (Option Value)} {st : List Value} {n : Nat} {Q : xQ} {μ : xM} {x : Int32} (hl : L[2]? = some (some (.int x))) (h : x_V S 71 71 L (.int x :: st) μ n Q) : x_V S 71 70 L (st) μ n Q := x_iload_n d71_70 hl h
theorem s71_71 {S : Nat × (Nat → Int32)} {L : List (Option Value)} {st : List Value} {n : Nat} {Q : xQ} {μ : xM} {x y : Int32} (h : x_V S 71 72 L (.int (x ^^^ y) :: st) μ n Q) : x_V S 71 71 L (.int y :: .int x :: st) μ n Q := x_ixor d71_71 h
theorem s71_72 {S : Nat × (Nat → Int32)} {L : List (Option Value)} {st : List Value} {n : Nat} {Q : xQ} {μ : xM} {x0 : Int32} {x1 : Int32} {a : Nat} (hs : x_sh a = (2, 2)) (hst : st.length ≤ 4) (h : x_V S 10 0 [some (.ref a), some (.int x0), some (.int x1)] [] μ n (x_bk S 71 72 L st Q)) : x_V S 71 72 L (.int x1 :: .int x0 :: .ref a :: st) μ n Q := x_callV (k' := 10) (as := [.int x0, .int x1]) (na := 2) d71_72 ⟨w414, by decide +kernel, by decide, by decide, by decide, by decide, by decide⟩ cf2 w455 w412 w413 (by decide +kernel) rfl hs (fun v hv => by
    simp only [List.mem_cons, List.not_mem_nil, or_false] at hv
    rcases hv with rfl | rfl <;> first | rfl | assumption) hst h
theorem s71_75 {S : Nat × (Nat → Int32)} {L : List (Option Value)} {st : List Value} {n : Nat} {Q : xQ} {μ : xM} {a : Nat} (hl : L[0]? = some (some (.ref a))) (h : x_V S 71 76 L (.ref a :: st) μ n Q) : x_V S 71 75 L (st) μ n Q := x_aload_n d71_75 hl h
theorem s71_75N {S : Nat × (Nat → Int32)} {L : List (Option Value)} {st : List Value} {n : Nat} {Q : xQ} {μ : xM} (hl : L[0]? = some (some .null)) (h : x_V S 71 76 L (.null :: st) μ n Q) : x_V S 71 75 L st μ n Q := x_aload_nN d71_75 hl h
theorem s71_76 {S : Nat × (Nat → Int32)} {L : List (Option Value)} {st : List Value} {n : Nat} {Q : xQ} {g : Nat → Nat → Int} {a : Nat} {v : Value} (hs : x_sh a = (0, 3)) (hp : x_pt a 0 = some v) (h : x_V S 71 79 L (v :: st) (x_vm g) n Q) : x_V S 71 76 L (.ref a :: st) (x_vm g) n Q := v_getp (i := 0) cf0 d71_76 (by decide) w223 hs hp h
theorem s71_79 {S : Nat × (Nat → Int32)} {L : List (Option Value)} {st : List Value} {n : Nat} {Q : xQ} {g : Nat → Nat → Int} {a : Nat} {v : Value} (hs : x_sh a = (1, 2)) (hp : x_pt a 0 = some v) (h : x_V S 71 82 L (v :: st) (x_vm g) n Q) : x_V S 71 79 L (.ref a :: st) (x_vm g) n Q := v_getp (i := 0) cf1 d71_79 (by decide) w52 hs hp h
theorem s71_82 {S : Nat × (Nat → Int32)} {L : List (Option Value)} {st : List Value} {n : Nat} {Q : xQ} {μ : xM} {x : Int32} (hl : L[1]? = some (some (.int x))) (h : x_V S 71 83 L (.int x :: st) μ n Q) : x_V S 71 82 L (st) μ n Q := x_iload_n d71_82 hl h
theorem s71_83 {S : Nat × (Nat → Int32)} {L : List (Option Value)} {st : List Value} {n : Nat} {Q : xQ} {μ : xM} {x0 : Int32} {a : Nat} (hs : x_sh a = (2, 2)) (hst : st.length ≤ 4) (h : x_V S 9 0 [some (.ref a), some (.int x0)] [] μ n (x_bk S 71 83 L st Q)) : x_V S 71 83 L (.int x0 :: .ref a :: st) μ n Q := x_callV (k' := 9) (as := [.int x0]) (na := 1) d71_83 ⟨w454, by decide +kernel, by decide, by decide, by decide, by decide, by decide⟩ cf2 w451 w452 w453 (by decide +kernel) rfl hs (fun v hv => by
    simp only [List.mem_cons, List.not_mem_nil, or_false] at hv
    rcases hv with rfl <;> first | rfl | assumption) hst h
theorem s71_86 {S : Nat × (Nat → Int32)} {L : List (Option Value)} {st : List Value} {n : Nat} {Q : xQ} {μ : xM} {x : Int32} (h : Q (.inl (some (.int x))) μ n) : x_V S 71 86 L (.int x :: []) μ n Q := x_ireturn d71_86 rfl rfl h
theorem mC_72 : mC 72 = prog_1_method_4_code := rfl
theorem d72_0 : decode (mC 72) 0 = .ok (.iload_n 1, 1) := by rw [mC_72]; decide +kernel
theorem d72_1 : decode (mC 72) 1 = .ok (.ifCond .lt 9, 3) := by rw [mC_72]; decide +kernel
theorem d72_4 : decode (mC 72) 4 = .ok (.iload_n 1, 1) := by rw [mC_72]; decide +kernel
theorem d72_5 : decode (mC 72) 5 = .ok (.bipush 127, 2) := by rw [mC_72]; decide +kernel
theorem d72_7 : decode (mC 72) 7 = .ok (.if_icmp .le 11, 3) := by rw [mC_72]; decide +kernel
theorem d72_10 : decode (mC 72) 10 = .ok (.new 39, 3) := by rw [mC_72]; decide +kernel
theorem d72_13 : decode (mC 72) 13 = .ok (.dup, 1) := by rw [mC_72]; decide +kernel
theorem d72_14 : decode (mC 72) 14 = .ok (.invokespecial 41, 3) := by rw [mC_72]; decide +kernel
theorem d72_17 : decode (mC 72) 17 = .ok (.athrow, 1) := by rw [mC_72]; decide +kernel
theorem d72_18 : decode (mC 72) 18 = .ok (.aload_n 0, 1) := by rw [mC_72]; decide +kernel
theorem d72_19 : decode (mC 72) 19 = .ok (.getfield 10, 3) := by rw [mC_72]; decide +kernel
theorem d72_22 : decode (mC 72) 22 = .ok (.getfield 59, 3) := by rw [mC_72]; decide +kernel
theorem d72_25 : decode (mC 72) 25 = .ok (.invokevirtual 87, 3) := by rw [mC_72]; decide +kernel
theorem d72_28 : decode (mC 72) 28 = .ok (.ifCond .eq 11, 3) := by rw [mC_72]; decide +kernel
theorem d72_31 : decode (mC 72) 31 = .ok (.new 91, 3) := by rw [mC_72]; decide +kernel
theorem d72_34 : decode (mC 72) 34 = .ok (.dup, 1) := by rw [mC_72]; decide +kernel
theorem d72_35 : decode (mC 72) 35 = .ok (.invokespecial 93, 3) := by rw [mC_72]; decide +kernel
theorem d72_38 : decode (mC 72) 38 = .ok (.athrow, 1) := by rw [mC_72]; decide +kernel
theorem d72_39 : decode (mC 72) 39 = .ok (.aload_n 0, 1) := by rw [mC_72]; decide +kernel
theorem d72_40 : decode (mC 72) 40 = .ok (.getfield 26, 3) := by rw [mC_72]; decide +kernel
theorem d72_43 : decode (mC 72) 43 = .ok (.getfield 42, 3) := by rw [mC_72]; decide +kernel
theorem d72_46 : decode (mC 72) 46 = .ok (.invokevirtual 46, 3) := by rw [mC_72]; decide +kernel
theorem d72_49 : decode (mC 72) 49 = .ok (.aload_n 0, 1) := by rw [mC_72]; decide +kernel
theorem d72_50 : decode (mC 72) 50 = .ok (.getfield 10, 3) := by rw [mC_72]; decide +kernel
theorem d72_53 : decode (mC 72) 53 = .ok (.getfield 59, 3) := by rw [mC_72]; decide +kernel
theorem d72_56 : decode (mC 72) 56 = .ok (.iload_n 1, 1) := by rw [mC_72]; decide +kernel
theorem d72_57 : decode (mC 72) 57 = .ok (.invokevirtual 94, 3) := by rw [mC_72]; decide +kernel
theorem d72_60 : decode (mC 72) 60 = .ok (.aload_n 0, 1) := by rw [mC_72]; decide +kernel
theorem d72_61 : decode (mC 72) 61 = .ok (.getfield 10, 3) := by rw [mC_72]; decide +kernel
theorem d72_64 : decode (mC 72) 64 = .ok (.getfield 59, 3) := by rw [mC_72]; decide +kernel
theorem d72_67 : decode (mC 72) 67 = .ok (.getfield 67, 3) := by rw [mC_72]; decide +kernel
theorem d72_70 : decode (mC 72) 70 = .ok (.ireturn, 1) := by rw [mC_72]; decide +kernel
theorem s72_0 {S : Nat × (Nat → Int32)} {L : List (Option Value)} {st : List Value} {n : Nat} {Q : xQ} {μ : xM} {x : Int32} (hl : L[1]? = some (some (.int x))) (h : x_V S 72 1 L (.int x :: st) μ n Q) : x_V S 72 0 L (st) μ n Q := x_iload_n d72_0 hl h
theorem s72_1 {S : Nat × (Nat → Int32)} {L : List (Option Value)} {st : List Value} {n : Nat} {Q : xQ} {μ : xM} {x : Int} (hx : ib x) (kt : x < 0 → x_V S 72 10 L (st) μ n Q) (kf : 0 ≤ x → x_V S 72 4 L (st) μ n Q) : x_V S 72 1 L (.int (I x) :: st) μ n Q := v_if_lt d72_1 (by decide) hx kt kf
theorem s72_4 {S : Nat × (Nat → Int32)} {L : List (Option Value)} {st : List Value} {n : Nat} {Q : xQ} {μ : xM} {x : Int32} (hl : L[1]? = some (some (.int x))) (h : x_V S 72 5 L (.int x :: st) μ n Q) : x_V S 72 4 L (st) μ n Q := x_iload_n d72_4 hl h
theorem s72_5 {S : Nat × (Nat → Int32)} {L : List (Option Value)} {st : List Value} {n : Nat} {Q : xQ} {μ : xM}  (h : x_V S 72 7 L (.int (I 127) :: st) μ n Q) : x_V S 72 5 L (st) μ n Q := x_bipush (by decide +kernel) d72_5 h
theorem s72_7 {S : Nat × (Nat → Int32)} {L : List (Option Value)} {st : List Value} {n : Nat} {Q : xQ} {μ : xM} {x y : Int} (hx : ib x) (hy : ib y) (kt : x ≤ y → x_V S 72 18 L (st) μ n Q) (kf : y < x → x_V S 72 10 L (st) μ n Q) : x_V S 72 7 L (.int (I y) :: .int (I x) :: st) μ n Q := v_icmp_le d72_7 (by decide) hx hy kt kf
theorem s72_10 {S : Nat × (Nat → Int32)} {L : List (Option Value)} {st : List Value} {n : Nat} {Q : xQ} {μ : xM}  (hsh : x_sh n = (99, 6)) (hn : n < x_NM) (hst : st.length ≤ 4) (h : Q (.inr 0) μ (n + 1)) : x_V S 72 10 L (st) μ n Q := x_throw (x := 0) (names := ["java/lang/RuntimeException", "java/lang/Exception"]) d72_10 d72_13 d72_14 d72_17 w306 w307 w15 (by decide +kernel) (by decide +kernel) ta_0 rfl hsh hn (by decide) (by decide) hst h
theorem s72_18 {S : Nat × (Nat → Int32)} {L : List (Option Value)} {st : List Value} {n : Nat} {Q : xQ} {μ : xM} {a : Nat} (hl : L[0]? = some (some (.ref a))) (h : x_V S 72 19 L (.ref a :: st) μ n Q) : x_V S 72 18 L (st) μ n Q := x_aload_n d72_18 hl h
theorem s72_18N {S : Nat × (Nat → Int32)} {L : List (Option Value)} {st : List Value} {n : Nat} {Q : xQ} {μ : xM} (hl : L[0]? = some (some .null)) (h : x_V S 72 19 L (.null :: st) μ n Q) : x_V S 72 18 L st μ n Q := x_aload_nN d72_18 hl h
theorem s72_19 {S : Nat × (Nat → Int32)} {L : List (Option Value)} {st : List Value} {n : Nat} {Q : xQ} {g : Nat → Nat → Int} {a : Nat} {v : Value} (hs : x_sh a = (0, 3)) (hp : x_pt a 0 = some v) (h : x_V S 72 22 L (v :: st) (x_vm g) n Q) : x_V S 72 19 L (.ref a :: st) (x_vm g) n Q := v_getp (i := 0) cf0 d72_19 (by decide) w223 hs hp h
theorem s72_22 {S : Nat × (Nat → Int32)} {L : List (Option Value)} {st : List Value} {n : Nat} {Q : xQ} {g : Nat → Nat → Int} {a : Nat} {v : Value} (hs : x_sh a = (1, 2)) (hp : x_pt a 0 = some v) (h : x_V S 72 25 L (v :: st) (x_vm g) n Q) : x_V S 72 22 L (.ref a :: st) (x_vm g) n Q := v_getp (i := 0) cf1 d72_22 (by decide) w52 hs hp h
theorem s72_25 {S : Nat × (Nat → Int32)} {L : List (Option Value)} {st : List Value} {n : Nat} {Q : xQ} {μ : xM}  {a : Nat} (hs : x_sh a = (2, 2)) (hst : st.length ≤ 4) (h : x_V S 7 0 [some (.ref a)] [] μ n (x_bk S 72 25 L st Q)) : x_V S 72 25 L (.ref a :: st) μ n Q := x_callV (k' := 7) (as := []) (na := 0) d72_25 ⟨w467, by decide +kernel, by decide, by decide, by decide, by decide, by decide⟩ cf2 w464 w465 w466 (by decide +kernel) rfl hs (fun v hv => by
    cases hv) hst h
theorem s72_28 {S : Nat × (Nat → Int32)} {L : List (Option Value)} {st : List Value} {n : Nat} {Q : xQ} {μ : xM} {x : Int} (hx : ib x) (kt : x = 0 → x_V S 72 39 L (st) μ n Q) (kf : x ≠ 0 → x_V S 72 31 L (st) μ n Q) : x_V S 72 28 L (.int (I x) :: st) μ n Q := v_if_eq d72_28 (by decide) hx kt kf
theorem s72_31 {S : Nat × (Nat → Int32)} {L : List (Option Value)} {st : List Value} {n : Nat} {Q : xQ} {μ : xM}  (hsh : x_sh n = (99, 6)) (hn : n < x_NM) (hst : st.length ≤ 4) (h : Q (.inr 1) μ (n + 1)) : x_V S 72 31 L (st) μ n Q := x_throw (x := 1) (names := ["java/lang/RuntimeException", "java/lang/Exception"]) d72_31 d72_34 d72_35 d72_38 w468 w469 w17 (by decide +kernel) (by decide +kernel) ta_1 rfl hsh hn (by decide) (by decide) hst h
theorem s72_39 {S : Nat × (Nat → Int32)} {L : List (Option Value)} {st : List Value} {n : Nat} {Q : xQ} {μ : xM} {a : Nat} (hl : L[0]? = some (some (.ref a))) (h : x_V S 72 40 L (.ref a :: st) μ n Q) : x_V S 72 39 L (st) μ n Q := x_aload_n d72_39 hl h
theorem s72_39N {S : Nat × (Nat → Int32)} {L : List (Option Value)} {st : List Value} {n : Nat} {Q : xQ} {μ : xM} (hl : L[0]? = some (some .null)) (h : x_V S 72 40 L (.null :: st) μ n Q) : x_V S 72 39 L st μ n Q := x_aload_nN d72_39 hl h
theorem s72_40 {S : Nat × (Nat → Int32)} {L : List (Option Value)} {st : List Value} {n : Nat} {Q : xQ} {g : Nat → Nat → Int} {a : Nat} {v : Value} (hs : x_sh a = (0, 3)) (hp : x_pt a 2 = some v) (h : x_V S 72 43 L (v :: st) (x_vm g) n Q) : x_V S 72 40 L (.ref a :: st) (x_vm g) n Q := v_getp (i := 2) cf0 d72_40 (by decide) w225 hs hp h
theorem s72_43 {S : Nat × (Nat → Int32)} {L : List (Option Value)} {st : List Value} {n : Nat} {Q : xQ} {g : Nat → Nat → Int} {a : Nat} {v : Value} (hs : x_sh a = (4, 12)) (hp : x_pt a 0 = some v) (h : x_V S 72 46 L (v :: st) (x_vm g) n Q) : x_V S 72 43 L (.ref a :: st) (x_vm g) n Q := v_getp (i := 0) cf4 d72_43 (by decide) w179 hs hp h
theorem s72_46 {S : Nat × (Nat → Int32)} {L : List (Option Value)} {st : List Value} {n : Nat} {Q : xQ} {μ : xM}  {a : Nat} (hs : x_sh a = (5, 3)) (hst : st.length ≤ 4) (h : x_V S 38 0 [some (.ref a)] [] μ n (x_bk S 72 46 L st Q)) : x_V S 72 46 L (.ref a :: st) μ n Q := x_callV (k' := 38) (as := []) (na := 0) d72_46 ⟨w240, by decide +kernel, by decide, by decide, by decide, by decide, by decide⟩ cf5 w237 w238 w239 (by decide +kernel) rfl hs (fun v hv => by
    cases hv) hst h
theorem s72_49 {S : Nat × (Nat → Int32)} {L : List (Option Value)} {st : List Value} {n : Nat} {Q : xQ} {μ : xM} {a : Nat} (hl : L[0]? = some (some (.ref a))) (h : x_V S 72 50 L (.ref a :: st) μ n Q) : x_V S 72 49 L (st) μ n Q := x_aload_n d72_49 hl h
theorem s72_49N {S : Nat × (Nat → Int32)} {L : List (Option Value)} {st : List Value} {n : Nat} {Q : xQ} {μ : xM} (hl : L[0]? = some (some .null)) (h : x_V S 72 50 L (.null :: st) μ n Q) : x_V S 72 49 L st μ n Q := x_aload_nN d72_49 hl h
theorem s72_50 {S : Nat × (Nat → Int32)} {L : List (Option Value)} {st : List Value} {n : Nat} {Q : xQ} {g : Nat → Nat → Int} {a : Nat} {v : Value} (hs : x_sh a = (0, 3)) (hp : x_pt a 0 = some v) (h : x_V S 72 53 L (v :: st) (x_vm g) n Q) : x_V S 72 50 L (.ref a :: st) (x_vm g) n Q := v_getp (i := 0) cf0 d72_50 (by decide) w223 hs hp h
theorem s72_53 {S : Nat × (Nat → Int32)} {L : List (Option Value)} {st : List Value} {n : Nat} {Q : xQ} {g : Nat → Nat → Int} {a : Nat} {v : Value} (hs : x_sh a = (1, 2)) (hp : x_pt a 0 = some v) (h : x_V S 72 56 L (v :: st) (x_vm g) n Q) : x_V S 72 53 L (.ref a :: st) (x_vm g) n Q := v_getp (i := 0) cf1 d72_53 (by decide) w52 hs hp h
theorem s72_56 {S : Nat × (Nat → Int32)} {L : List (Option Value)} {st : List Value} {n : Nat} {Q : xQ} {μ : xM} {x : Int32} (hl : L[1]? = some (some (.int x))) (h : x_V S 72 57 L (.int x :: st) μ n Q) : x_V S 72 56 L (st) μ n Q := x_iload_n d72_56 hl h
theorem s72_57 {S : Nat × (Nat → Int32)} {L : List (Option Value)} {st : List Value} {n : Nat} {Q : xQ} {μ : xM} {x0 : Int32} {a : Nat} (hs : x_sh a = (2, 2)) (hst : st.length ≤ 4) (h : x_V S 11 0 [some (.ref a), some (.int x0)] [] μ n (x_bk S 72 57 L st Q)) : x_V S 72 57 L (.int x0 :: .ref a :: st) μ n Q := x_callV (k' := 11) (as := [.int x0]) (na := 1) d72_57 ⟨w392, by decide +kernel, by decide, by decide, by decide, by decide, by decide⟩ cf2 w483 w390 w391 (by decide +kernel) rfl hs (fun v hv => by
    simp only [List.mem_cons, List.not_mem_nil, or_false] at hv
    rcases hv with rfl <;> first | rfl | assumption) hst h
theorem s72_60 {S : Nat × (Nat → Int32)} {L : List (Option Value)} {st : List Value} {n : Nat} {Q : xQ} {μ : xM} {a : Nat} (hl : L[0]? = some (some (.ref a))) (h : x_V S 72 61 L (.ref a :: st) μ n Q) : x_V S 72 60 L (st) μ n Q := x_aload_n d72_60 hl h
theorem s72_60N {S : Nat × (Nat → Int32)} {L : List (Option Value)} {st : List Value} {n : Nat} {Q : xQ} {μ : xM} (hl : L[0]? = some (some .null)) (h : x_V S 72 61 L (.null :: st) μ n Q) : x_V S 72 60 L st μ n Q := x_aload_nN d72_60 hl h
theorem s72_61 {S : Nat × (Nat → Int32)} {L : List (Option Value)} {st : List Value} {n : Nat} {Q : xQ} {g : Nat → Nat → Int} {a : Nat} {v : Value} (hs : x_sh a = (0, 3)) (hp : x_pt a 0 = some v) (h : x_V S 72 64 L (v :: st) (x_vm g) n Q) : x_V S 72 61 L (.ref a :: st) (x_vm g) n Q := v_getp (i := 0) cf0 d72_61 (by decide) w223 hs hp h
theorem s72_64 {S : Nat × (Nat → Int32)} {L : List (Option Value)} {st : List Value} {n : Nat} {Q : xQ} {g : Nat → Nat → Int} {a : Nat} {v : Value} (hs : x_sh a = (1, 2)) (hp : x_pt a 0 = some v) (h : x_V S 72 67 L (v :: st) (x_vm g) n Q) : x_V S 72 64 L (.ref a :: st) (x_vm g) n Q := v_getp (i := 0) cf1 d72_64 (by decide) w52 hs hp h
theorem s72_67 {S : Nat × (Nat → Int32)} {L : List (Option Value)} {st : List Value} {n : Nat} {Q : xQ} {g : Nat → Nat → Int} {a : Nat} (hs : x_sh a = (2, 2)) (hp : x_pt a 1 = none) (ha : a ≠ x_out) (h : x_V S 72 70 L (.int (I (g a 1)) :: st) (x_vm g) n Q) : x_V S 72 67 L (.ref a :: st) (x_vm g) n Q := v_get (i := 1) cf2 d72_67 (by decide) w42 hs hp ha h
theorem s72_70 {S : Nat × (Nat → Int32)} {L : List (Option Value)} {st : List Value} {n : Nat} {Q : xQ} {μ : xM} {x : Int32} (h : Q (.inl (some (.int x))) μ n) : x_V S 72 70 L (.int x :: []) μ n Q := x_ireturn d72_70 rfl rfl h
theorem mC_73 : mC 73 = prog_1_method_5_code := rfl
theorem d73_0 : decode (mC 73) 0 = .ok (.aload_n 0, 1) := by rw [mC_73]; decide +kernel
theorem d73_1 : decode (mC 73) 1 = .ok (.getfield 10, 3) := by rw [mC_73]; decide +kernel
theorem d73_4 : decode (mC 73) 4 = .ok (.getfield 59, 3) := by rw [mC_73]; decide +kernel
theorem d73_7 : decode (mC 73) 7 = .ok (.getfield 67, 3) := by rw [mC_73]; decide +kernel
theorem d73_10 : decode (mC 73) 10 = .ok (.ifCond .ne 11, 3) := by rw [mC_73]; decide +kernel
theorem d73_13 : decode (mC 73) 13 = .ok (.new 91, 3) := by rw [mC_73]; decide +kernel
theorem d73_16 : decode (mC 73) 16 = .ok (.dup, 1) := by rw [mC_73]; decide +kernel
theorem d73_17 : decode (mC 73) 17 = .ok (.invokespecial 93, 3) := by rw [mC_73]; decide +kernel
theorem d73_20 : decode (mC 73) 20 = .ok (.athrow, 1) := by rw [mC_73]; decide +kernel
theorem d73_21 : decode (mC 73) 21 = .ok (.aload_n 0, 1) := by rw [mC_73]; decide +kernel
theorem d73_22 : decode (mC 73) 22 = .ok (.getfield 26, 3) := by rw [mC_73]; decide +kernel
theorem d73_25 : decode (mC 73) 25 = .ok (.getfield 42, 3) := by rw [mC_73]; decide +kernel
theorem d73_28 : decode (mC 73) 28 = .ok (.invokevirtual 46, 3) := by rw [mC_73]; decide +kernel
theorem d73_31 : decode (mC 73) 31 = .ok (.aload_n 0, 1) := by rw [mC_73]; decide +kernel
theorem d73_32 : decode (mC 73) 32 = .ok (.getfield 10, 3) := by rw [mC_73]; decide +kernel
theorem d73_35 : decode (mC 73) 35 = .ok (.aload_n 0, 1) := by rw [mC_73]; decide +kernel
theorem d73_36 : decode (mC 73) 36 = .ok (.getfield 19, 3) := by rw [mC_73]; decide +kernel
theorem d73_39 : decode (mC 73) 39 = .ok (.invokevirtual 98, 3) := by rw [mC_73]; decide +kernel
theorem d73_42 : decode (mC 73) 42 = .ok (.istore_n 1, 1) := by rw [mC_73]; decide +kernel
theorem d73_43 : decode (mC 73) 43 = .ok (.aload_n 0, 1) := by rw [mC_73]; decide +kernel
theorem d73_44 : decode (mC 73) 44 = .ok (.getfield 10, 3) := by rw [mC_73]; decide +kernel
theorem d73_47 : decode (mC 73) 47 = .ok (.getfield 59, 3) := by rw [mC_73]; decide +kernel
theorem d73_50 : decode (mC 73) 50 = .ok (.invokevirtual 102, 3) := by rw [mC_73]; decide +kernel
theorem d73_53 : decode (mC 73) 53 = .ok (.iload_n 1, 1) := by rw [mC_73]; decide +kernel
theorem d73_54 : decode (mC 73) 54 = .ok (.ifCond .eq 17, 3) := by rw [mC_73]; decide +kernel
theorem d73_57 : decode (mC 73) 57 = .ok (.aload_n 0, 1) := by rw [mC_73]; decide +kernel
theorem d73_58 : decode (mC 73) 58 = .ok (.getfield 26, 3) := by rw [mC_73]; decide +kernel
theorem d73_61 : decode (mC 73) 61 = .ok (.aload_n 0, 1) := by rw [mC_73]; decide +kernel
theorem d73_62 : decode (mC 73) 62 = .ok (.getfield 19, 3) := by rw [mC_73]; decide +kernel
theorem d73_65 : decode (mC 73) 65 = .ok (.invokevirtual 103, 3) := by rw [mC_73]; decide +kernel
theorem d73_68 : decode (mC 73) 68 = .ok (.goto 4, 3) := by rw [mC_73]; decide +kernel
theorem d73_71 : decode (mC 73) 71 = .ok (.iconst 0, 1) := by rw [mC_73]; decide +kernel
theorem d73_72 : decode (mC 73) 72 = .ok (.ireturn, 1) := by rw [mC_73]; decide +kernel
theorem s73_0 {S : Nat × (Nat → Int32)} {L : List (Option Value)} {st : List Value} {n : Nat} {Q : xQ} {μ : xM} {a : Nat} (hl : L[0]? = some (some (.ref a))) (h : x_V S 73 1 L (.ref a :: st) μ n Q) : x_V S 73 0 L (st) μ n Q := x_aload_n d73_0 hl h
theorem s73_0N {S : Nat × (Nat → Int32)} {L : List (Option Value)} {st : List Value} {n : Nat} {Q : xQ} {μ : xM} (hl : L[0]? = some (some .null)) (h : x_V S 73 1 L (.null :: st) μ n Q) : x_V S 73 0 L st μ n Q := x_aload_nN d73_0 hl h
theorem s73_1 {S : Nat × (Nat → Int32)} {L : List (Option Value)} {st : List Value} {n : Nat} {Q : xQ} {g : Nat → Nat → Int} {a : Nat} {v : Value} (hs : x_sh a = (0, 3)) (hp : x_pt a 0 = some v) (h : x_V S 73 4 L (v :: st) (x_vm g) n Q) : x_V S 73 1 L (.ref a :: st) (x_vm g) n Q := v_getp (i := 0) cf0 d73_1 (by decide) w223 hs hp h
theorem s73_4 {S : Nat × (Nat → Int32)} {L : List (Option Value)} {st : List Value} {n : Nat} {Q : xQ} {g : Nat → Nat → Int} {a : Nat} {v : Value} (hs : x_sh a = (1, 2)) (hp : x_pt a 0 = some v) (h : x_V S 73 7 L (v :: st) (x_vm g) n Q) : x_V S 73 4 L (.ref a :: st) (x_vm g) n Q := v_getp (i := 0) cf1 d73_4 (by decide) w52 hs hp h
theorem s73_7 {S : Nat × (Nat → Int32)} {L : List (Option Value)} {st : List Value} {n : Nat} {Q : xQ} {g : Nat → Nat → Int} {a : Nat} (hs : x_sh a = (2, 2)) (hp : x_pt a 1 = none) (ha : a ≠ x_out) (h : x_V S 73 10 L (.int (I (g a 1)) :: st) (x_vm g) n Q) : x_V S 73 7 L (.ref a :: st) (x_vm g) n Q := v_get (i := 1) cf2 d73_7 (by decide) w42 hs hp ha h
theorem s73_10 {S : Nat × (Nat → Int32)} {L : List (Option Value)} {st : List Value} {n : Nat} {Q : xQ} {μ : xM} {x : Int} (hx : ib x) (kt : x ≠ 0 → x_V S 73 21 L (st) μ n Q) (kf : x = 0 → x_V S 73 13 L (st) μ n Q) : x_V S 73 10 L (.int (I x) :: st) μ n Q := v_if_ne d73_10 (by decide) hx kt kf
theorem s73_13 {S : Nat × (Nat → Int32)} {L : List (Option Value)} {st : List Value} {n : Nat} {Q : xQ} {μ : xM}  (hsh : x_sh n = (99, 6)) (hn : n < x_NM) (hst : st.length ≤ 4) (h : Q (.inr 1) μ (n + 1)) : x_V S 73 13 L (st) μ n Q := x_throw (x := 1) (names := ["java/lang/RuntimeException", "java/lang/Exception"]) d73_13 d73_16 d73_17 d73_20 w468 w469 w17 (by decide +kernel) (by decide +kernel) ta_1 rfl hsh hn (by decide) (by decide) hst h
theorem s73_21 {S : Nat × (Nat → Int32)} {L : List (Option Value)} {st : List Value} {n : Nat} {Q : xQ} {μ : xM} {a : Nat} (hl : L[0]? = some (some (.ref a))) (h : x_V S 73 22 L (.ref a :: st) μ n Q) : x_V S 73 21 L (st) μ n Q := x_aload_n d73_21 hl h
theorem s73_21N {S : Nat × (Nat → Int32)} {L : List (Option Value)} {st : List Value} {n : Nat} {Q : xQ} {μ : xM} (hl : L[0]? = some (some .null)) (h : x_V S 73 22 L (.null :: st) μ n Q) : x_V S 73 21 L st μ n Q := x_aload_nN d73_21 hl h
theorem s73_22 {S : Nat × (Nat → Int32)} {L : List (Option Value)} {st : List Value} {n : Nat} {Q : xQ} {g : Nat → Nat → Int} {a : Nat} {v : Value} (hs : x_sh a = (0, 3)) (hp : x_pt a 2 = some v) (h : x_V S 73 25 L (v :: st) (x_vm g) n Q) : x_V S 73 22 L (.ref a :: st) (x_vm g) n Q := v_getp (i := 2) cf0 d73_22 (by decide) w225 hs hp h
theorem s73_25 {S : Nat × (Nat → Int32)} {L : List (Option Value)} {st : List Value} {n : Nat} {Q : xQ} {g : Nat → Nat → Int} {a : Nat} {v : Value} (hs : x_sh a = (4, 12)) (hp : x_pt a 0 = some v) (h : x_V S 73 28 L (v :: st) (x_vm g) n Q) : x_V S 73 25 L (.ref a :: st) (x_vm g) n Q := v_getp (i := 0) cf4 d73_25 (by decide) w179 hs hp h
theorem s73_28 {S : Nat × (Nat → Int32)} {L : List (Option Value)} {st : List Value} {n : Nat} {Q : xQ} {μ : xM}  {a : Nat} (hs : x_sh a = (5, 3)) (hst : st.length ≤ 4) (h : x_V S 38 0 [some (.ref a)] [] μ n (x_bk S 73 28 L st Q)) : x_V S 73 28 L (.ref a :: st) μ n Q := x_callV (k' := 38) (as := []) (na := 0) d73_28 ⟨w240, by decide +kernel, by decide, by decide, by decide, by decide, by decide⟩ cf5 w237 w238 w239 (by decide +kernel) rfl hs (fun v hv => by
    cases hv) hst h
theorem s73_31 {S : Nat × (Nat → Int32)} {L : List (Option Value)} {st : List Value} {n : Nat} {Q : xQ} {μ : xM} {a : Nat} (hl : L[0]? = some (some (.ref a))) (h : x_V S 73 32 L (.ref a :: st) μ n Q) : x_V S 73 31 L (st) μ n Q := x_aload_n d73_31 hl h
theorem s73_31N {S : Nat × (Nat → Int32)} {L : List (Option Value)} {st : List Value} {n : Nat} {Q : xQ} {μ : xM} (hl : L[0]? = some (some .null)) (h : x_V S 73 32 L (.null :: st) μ n Q) : x_V S 73 31 L st μ n Q := x_aload_nN d73_31 hl h
theorem s73_32 {S : Nat × (Nat → Int32)} {L : List (Option Value)} {st : List Value} {n : Nat} {Q : xQ} {g : Nat → Nat → Int} {a : Nat} {v : Value} (hs : x_sh a = (0, 3)) (hp : x_pt a 0 = some v) (h : x_V S 73 35 L (v :: st) (x_vm g) n Q) : x_V S 73 32 L (.ref a :: st) (x_vm g) n Q := v_getp (i := 0) cf0 d73_32 (by decide) w223 hs hp h
theorem s73_35 {S : Nat × (Nat → Int32)} {L : List (Option Value)} {st : List Value} {n : Nat} {Q : xQ} {μ : xM} {a : Nat} (hl : L[0]? = some (some (.ref a))) (h : x_V S 73 36 L (.ref a :: st) μ n Q) : x_V S 73 35 L (st) μ n Q := x_aload_n d73_35 hl h
theorem s73_35N {S : Nat × (Nat → Int32)} {L : List (Option Value)} {st : List Value} {n : Nat} {Q : xQ} {μ : xM} (hl : L[0]? = some (some .null)) (h : x_V S 73 36 L (.null :: st) μ n Q) : x_V S 73 35 L st μ n Q := x_aload_nN d73_35 hl h
theorem s73_36 {S : Nat × (Nat → Int32)} {L : List (Option Value)} {st : List Value} {n : Nat} {Q : xQ} {g : Nat → Nat → Int} {a : Nat} {v : Value} (hs : x_sh a = (0, 3)) (hp : x_pt a 1 = some v) (h : x_V S 73 39 L (v :: st) (x_vm g) n Q) : x_V S 73 36 L (.ref a :: st) (x_vm g) n Q := v_getp (i := 1) cf0 d73_36 (by decide) w224 hs hp h
theorem s73_39 {S : Nat × (Nat → Int32)} {L : List (Option Value)} {st : List Value} {n : Nat} {Q : xQ} {μ : xM} {v0 : Value} (hc0 : v0.category = 1) {a : Nat} (hs : x_sh a = (1, 2)) (hst : st.length ≤ 4) (h : x_V S 28 0 [some (.ref a), some (v0), none, none] [] μ n (x_bk S 73 39 L st Q)) : x_V S 73 39 L (v0 :: .ref a :: st) μ n Q := x_callV (k' := 28) (as := [v0]) (na := 1) d73_39 ⟨w494, by decide +kernel, by decide, by decide, by decide, by decide, by decide⟩ cf1 w491 w492 w493 (by decide +kernel) rfl hs (fun v hv => by
    simp only [List.mem_cons, List.not_mem_nil, or_false] at hv
    rcases hv with rfl <;> first | rfl | assumption) hst h
theorem s73_42 {S : Nat × (Nat → Int32)} {L : List (Option Value)} {st : List Value} {n : Nat} {Q : xQ} {μ : xM} {x : Int32} (h : x_V S 73 43 (L.set 1 (some (.int x))) (st) μ n Q) : x_V S 73 42 L (.int x :: st) μ n Q := x_istore_n d73_42 (by decide) h
theorem s73_43 {S : Nat × (Nat → Int32)} {L : List (Option Value)} {st : List Value} {n : Nat} {Q : xQ} {μ : xM} {a : Nat} (hl : L[0]? = some (some (.ref a))) (h : x_V S 73 44 L (.ref a :: st) μ n Q) : x_V S 73 43 L (st) μ n Q := x_aload_n d73_43 hl h
theorem s73_43N {S : Nat × (Nat → Int32)} {L : List (Option Value)} {st : List Value} {n : Nat} {Q : xQ} {μ : xM} (hl : L[0]? = some (some .null)) (h : x_V S 73 44 L (.null :: st) μ n Q) : x_V S 73 43 L st μ n Q := x_aload_nN d73_43 hl h
theorem s73_44 {S : Nat × (Nat → Int32)} {L : List (Option Value)} {st : List Value} {n : Nat} {Q : xQ} {g : Nat → Nat → Int} {a : Nat} {v : Value} (hs : x_sh a = (0, 3)) (hp : x_pt a 0 = some v) (h : x_V S 73 47 L (v :: st) (x_vm g) n Q) : x_V S 73 44 L (.ref a :: st) (x_vm g) n Q := v_getp (i := 0) cf0 d73_44 (by decide) w223 hs hp h
theorem s73_47 {S : Nat × (Nat → Int32)} {L : List (Option Value)} {st : List Value} {n : Nat} {Q : xQ} {g : Nat → Nat → Int} {a : Nat} {v : Value} (hs : x_sh a = (1, 2)) (hp : x_pt a 0 = some v) (h : x_V S 73 50 L (v :: st) (x_vm g) n Q) : x_V S 73 47 L (.ref a :: st) (x_vm g) n Q := v_getp (i := 0) cf1 d73_47 (by decide) w52 hs hp h
theorem s73_50 {S : Nat × (Nat → Int32)} {L : List (Option Value)} {st : List Value} {n : Nat} {Q : xQ} {μ : xM}  {a : Nat} (hs : x_sh a = (2, 2)) (hst : st.length ≤ 4) (h : x_V S 6 0 [some (.ref a)] [] μ n (x_bk S 73 50 L st Q)) : x_V S 73 50 L (.ref a :: st) μ n Q := x_callV (k' := 6) (as := []) (na := 0) d73_50 ⟨w379, by decide +kernel, by decide, by decide, by decide, by decide, by decide⟩ cf2 w533 w377 w378 (by decide +kernel) rfl hs (fun v hv => by
    cases hv) hst h
theorem s73_53 {S : Nat × (Nat → Int32)} {L : List (Option Value)} {st : List Value} {n : Nat} {Q : xQ} {μ : xM} {x : Int32} (hl : L[1]? = some (some (.int x))) (h : x_V S 73 54 L (.int x :: st) μ n Q) : x_V S 73 53 L (st) μ n Q := x_iload_n d73_53 hl h
theorem s73_54 {S : Nat × (Nat → Int32)} {L : List (Option Value)} {st : List Value} {n : Nat} {Q : xQ} {μ : xM} {x : Int} (hx : ib x) (kt : x = 0 → x_V S 73 71 L (st) μ n Q) (kf : x ≠ 0 → x_V S 73 57 L (st) μ n Q) : x_V S 73 54 L (.int (I x) :: st) μ n Q := v_if_eq d73_54 (by decide) hx kt kf
theorem s73_57 {S : Nat × (Nat → Int32)} {L : List (Option Value)} {st : List Value} {n : Nat} {Q : xQ} {μ : xM} {a : Nat} (hl : L[0]? = some (some (.ref a))) (h : x_V S 73 58 L (.ref a :: st) μ n Q) : x_V S 73 57 L (st) μ n Q := x_aload_n d73_57 hl h
theorem s73_57N {S : Nat × (Nat → Int32)} {L : List (Option Value)} {st : List Value} {n : Nat} {Q : xQ} {μ : xM} (hl : L[0]? = some (some .null)) (h : x_V S 73 58 L (.null :: st) μ n Q) : x_V S 73 57 L st μ n Q := x_aload_nN d73_57 hl h
theorem s73_58 {S : Nat × (Nat → Int32)} {L : List (Option Value)} {st : List Value} {n : Nat} {Q : xQ} {g : Nat → Nat → Int} {a : Nat} {v : Value} (hs : x_sh a = (0, 3)) (hp : x_pt a 2 = some v) (h : x_V S 73 61 L (v :: st) (x_vm g) n Q) : x_V S 73 58 L (.ref a :: st) (x_vm g) n Q := v_getp (i := 2) cf0 d73_58 (by decide) w225 hs hp h
theorem s73_61 {S : Nat × (Nat → Int32)} {L : List (Option Value)} {st : List Value} {n : Nat} {Q : xQ} {μ : xM} {a : Nat} (hl : L[0]? = some (some (.ref a))) (h : x_V S 73 62 L (.ref a :: st) μ n Q) : x_V S 73 61 L (st) μ n Q := x_aload_n d73_61 hl h
theorem s73_61N {S : Nat × (Nat → Int32)} {L : List (Option Value)} {st : List Value} {n : Nat} {Q : xQ} {μ : xM} (hl : L[0]? = some (some .null)) (h : x_V S 73 62 L (.null :: st) μ n Q) : x_V S 73 61 L st μ n Q := x_aload_nN d73_61 hl h
theorem s73_62 {S : Nat × (Nat → Int32)} {L : List (Option Value)} {st : List Value} {n : Nat} {Q : xQ} {g : Nat → Nat → Int} {a : Nat} {v : Value} (hs : x_sh a = (0, 3)) (hp : x_pt a 1 = some v) (h : x_V S 73 65 L (v :: st) (x_vm g) n Q) : x_V S 73 62 L (.ref a :: st) (x_vm g) n Q := v_getp (i := 1) cf0 d73_62 (by decide) w224 hs hp h
theorem s73_65 {S : Nat × (Nat → Int32)} {L : List (Option Value)} {st : List Value} {n : Nat} {Q : xQ} {μ : xM} {v0 : Value} (hc0 : v0.category = 1) {a : Nat} (hs : x_sh a = (4, 12)) (hst : st.length ≤ 4) (h : x_V S 55 0 [some (.ref a), some (v0)] [] μ n (x_bk S 73 65 L st Q)) : x_V S 73 65 L (v0 :: .ref a :: st) μ n Q := x_callV (k' := 55) (as := [v0]) (na := 1) d73_65 ⟨w537, by decide +kernel, by decide, by decide, by decide, by decide, by decide⟩ cf4 w534 w535 w536 (by decide +kernel) rfl hs (fun v hv => by
    simp only [List.mem_cons, List.not_mem_nil, or_false] at hv
    rcases hv with rfl <;> first | rfl | assumption) hst h
theorem s73_68 {S : Nat × (Nat → Int32)} {L : List (Option Value)} {st : List Value} {n : Nat} {Q : xQ} {μ : xM}  (h : x_V S 73 72 L (st) μ n Q) : x_V S 73 68 L (st) μ n Q := x_goto (tgt := 72) (by decide) d73_68 h
theorem s73_71 {S : Nat × (Nat → Int32)} {L : List (Option Value)} {st : List Value} {n : Nat} {Q : xQ} {μ : xM}  (h : x_V S 73 72 L (.int (I 0) :: st) μ n Q) : x_V S 73 71 L (st) μ n Q := x_iconst (by decide +kernel) d73_71 h
theorem s73_72 {S : Nat × (Nat → Int32)} {L : List (Option Value)} {st : List Value} {n : Nat} {Q : xQ} {μ : xM} {x : Int32} (h : Q (.inl (some (.int x))) μ n) : x_V S 73 72 L (.int x :: []) μ n Q := x_ireturn d73_72 rfl rfl h
theorem mC_74 : mC 74 = prog_1_method_6_code := rfl
theorem d74_0 : decode (mC 74) 0 = .ok (.aload_n 0, 1) := by rw [mC_74]; decide +kernel
theorem d74_1 : decode (mC 74) 1 = .ok (.getfield 26, 3) := by rw [mC_74]; decide +kernel
theorem d74_4 : decode (mC 74) 4 = .ok (.getfield 42, 3) := by rw [mC_74]; decide +kernel
theorem d74_7 : decode (mC 74) 7 = .ok (.invokevirtual 46, 3) := by rw [mC_74]; decide +kernel
theorem d74_10 : decode (mC 74) 10 = .ok (.aload_n 0, 1) := by rw [mC_74]; decide +kernel
theorem d74_11 : decode (mC 74) 11 = .ok (.getfield 26, 3) := by rw [mC_74]; decide +kernel
theorem d74_14 : decode (mC 74) 14 = .ok (.invokevirtual 107, 3) := by rw [mC_74]; decide +kernel
theorem d74_17 : decode (mC 74) 17 = .ok (.aload_n 0, 1) := by rw [mC_74]; decide +kernel
theorem d74_18 : decode (mC 74) 18 = .ok (.getfield 26, 3) := by rw [mC_74]; decide +kernel
theorem d74_21 : decode (mC 74) 21 = .ok (.getfield 110, 3) := by rw [mC_74]; decide +kernel
theorem d74_24 : decode (mC 74) 24 = .ok (.ireturn, 1) := by rw [mC_74]; decide +kernel
theorem s74_0 {S : Nat × (Nat → Int32)} {L : List (Option Value)} {st : List Value} {n : Nat} {Q : xQ} {μ : xM} {a : Nat} (hl : L[0]? = some (some (.ref a))) (h : x_V S 74 1 L (.ref a :: st) μ n Q) : x_V S 74 0 L (st) μ n Q := x_aload_n d74_0 hl h
theorem s74_0N {S : Nat × (Nat → Int32)} {L : List (Option Value)} {st : List Value} {n : Nat} {Q : xQ} {μ : xM} (hl : L[0]? = some (some .null)) (h : x_V S 74 1 L (.null :: st) μ n Q) : x_V S 74 0 L st μ n Q := x_aload_nN d74_0 hl h
theorem s74_1 {S : Nat × (Nat → Int32)} {L : List (Option Value)} {st : List Value} {n : Nat} {Q : xQ} {g : Nat → Nat → Int} {a : Nat} {v : Value} (hs : x_sh a = (0, 3)) (hp : x_pt a 2 = some v) (h : x_V S 74 4 L (v :: st) (x_vm g) n Q) : x_V S 74 1 L (.ref a :: st) (x_vm g) n Q := v_getp (i := 2) cf0 d74_1 (by decide) w225 hs hp h
theorem s74_4 {S : Nat × (Nat → Int32)} {L : List (Option Value)} {st : List Value} {n : Nat} {Q : xQ} {g : Nat → Nat → Int} {a : Nat} {v : Value} (hs : x_sh a = (4, 12)) (hp : x_pt a 0 = some v) (h : x_V S 74 7 L (v :: st) (x_vm g) n Q) : x_V S 74 4 L (.ref a :: st) (x_vm g) n Q := v_getp (i := 0) cf4 d74_4 (by decide) w179 hs hp h
theorem s74_7 {S : Nat × (Nat → Int32)} {L : List (Option Value)} {st : List Value} {n : Nat} {Q : xQ} {μ : xM}  {a : Nat} (hs : x_sh a = (5, 3)) (hst : st.length ≤ 4) (h : x_V S 38 0 [some (.ref a)] [] μ n (x_bk S 74 7 L st Q)) : x_V S 74 7 L (.ref a :: st) μ n Q := x_callV (k' := 38) (as := []) (na := 0) d74_7 ⟨w240, by decide +kernel, by decide, by decide, by decide, by decide, by decide⟩ cf5 w237 w238 w239 (by decide +kernel) rfl hs (fun v hv => by
    cases hv) hst h
theorem s74_10 {S : Nat × (Nat → Int32)} {L : List (Option Value)} {st : List Value} {n : Nat} {Q : xQ} {μ : xM} {a : Nat} (hl : L[0]? = some (some (.ref a))) (h : x_V S 74 11 L (.ref a :: st) μ n Q) : x_V S 74 10 L (st) μ n Q := x_aload_n d74_10 hl h
theorem s74_10N {S : Nat × (Nat → Int32)} {L : List (Option Value)} {st : List Value} {n : Nat} {Q : xQ} {μ : xM} (hl : L[0]? = some (some .null)) (h : x_V S 74 11 L (.null :: st) μ n Q) : x_V S 74 10 L st μ n Q := x_aload_nN d74_10 hl h
theorem s74_11 {S : Nat × (Nat → Int32)} {L : List (Option Value)} {st : List Value} {n : Nat} {Q : xQ} {g : Nat → Nat → Int} {a : Nat} {v : Value} (hs : x_sh a = (0, 3)) (hp : x_pt a 2 = some v) (h : x_V S 74 14 L (v :: st) (x_vm g) n Q) : x_V S 74 11 L (.ref a :: st) (x_vm g) n Q := v_getp (i := 2) cf0 d74_11 (by decide) w225 hs hp h
theorem s74_14 {S : Nat × (Nat → Int32)} {L : List (Option Value)} {st : List Value} {n : Nat} {Q : xQ} {μ : xM}  {a : Nat} (hs : x_sh a = (4, 12)) (hst : st.length ≤ 4) (h : x_V S 56 0 [some (.ref a)] [] μ n (x_bk S 74 14 L st Q)) : x_V S 74 14 L (.ref a :: st) μ n Q := x_callV (k' := 56) (as := []) (na := 0) d74_14 ⟨w244, by decide +kernel, by decide, by decide, by decide, by decide, by decide⟩ cf4 w241 w242 w243 (by decide +kernel) rfl hs (fun v hv => by
    cases hv) hst h
theorem s74_17 {S : Nat × (Nat → Int32)} {L : List (Option Value)} {st : List Value} {n : Nat} {Q : xQ} {μ : xM} {a : Nat} (hl : L[0]? = some (some (.ref a))) (h : x_V S 74 18 L (.ref a :: st) μ n Q) : x_V S 74 17 L (st) μ n Q := x_aload_n d74_17 hl h
theorem s74_17N {S : Nat × (Nat → Int32)} {L : List (Option Value)} {st : List Value} {n : Nat} {Q : xQ} {μ : xM} (hl : L[0]? = some (some .null)) (h : x_V S 74 18 L (.null :: st) μ n Q) : x_V S 74 17 L st μ n Q := x_aload_nN d74_17 hl h
theorem s74_18 {S : Nat × (Nat → Int32)} {L : List (Option Value)} {st : List Value} {n : Nat} {Q : xQ} {g : Nat → Nat → Int} {a : Nat} {v : Value} (hs : x_sh a = (0, 3)) (hp : x_pt a 2 = some v) (h : x_V S 74 21 L (v :: st) (x_vm g) n Q) : x_V S 74 18 L (.ref a :: st) (x_vm g) n Q := v_getp (i := 2) cf0 d74_18 (by decide) w225 hs hp h
theorem s74_21 {S : Nat × (Nat → Int32)} {L : List (Option Value)} {st : List Value} {n : Nat} {Q : xQ} {g : Nat → Nat → Int} {a : Nat} (hs : x_sh a = (4, 12)) (hp : x_pt a 7 = none) (ha : a ≠ x_out) (h : x_V S 74 24 L (.int (I (g a 7)) :: st) (x_vm g) n Q) : x_V S 74 21 L (.ref a :: st) (x_vm g) n Q := v_get (i := 7) cf4 d74_21 (by decide) w192 hs hp ha h
theorem s74_24 {S : Nat × (Nat → Int32)} {L : List (Option Value)} {st : List Value} {n : Nat} {Q : xQ} {μ : xM} {x : Int32} (h : Q (.inl (some (.int x))) μ n) : x_V S 74 24 L (.int x :: []) μ n Q := x_ireturn d74_24 rfl rfl h
theorem mC_75 : mC 75 = prog_1_method_7_code := rfl
theorem d75_0 : decode (mC 75) 0 = .ok (.aload_n 0, 1) := by rw [mC_75]; decide +kernel
theorem d75_1 : decode (mC 75) 1 = .ok (.getfield 26, 3) := by rw [mC_75]; decide +kernel
theorem d75_4 : decode (mC 75) 4 = .ok (.getfield 42, 3) := by rw [mC_75]; decide +kernel
theorem d75_7 : decode (mC 75) 7 = .ok (.invokevirtual 46, 3) := by rw [mC_75]; decide +kernel
theorem d75_10 : decode (mC 75) 10 = .ok (.aload_n 0, 1) := by rw [mC_75]; decide +kernel
theorem d75_11 : decode (mC 75) 11 = .ok (.getfield 26, 3) := by rw [mC_75]; decide +kernel
theorem d75_14 : decode (mC 75) 14 = .ok (.getfield 113, 3) := by rw [mC_75]; decide +kernel
theorem d75_17 : decode (mC 75) 17 = .ok (.istore_n 1, 1) := by rw [mC_75]; decide +kernel
theorem d75_18 : decode (mC 75) 18 = .ok (.aload_n 0, 1) := by rw [mC_75]; decide +kernel
theorem d75_19 : decode (mC 75) 19 = .ok (.getfield 26, 3) := by rw [mC_75]; decide +kernel
theorem d75_22 : decode (mC 75) 22 = .ok (.invokevirtual 117, 3) := by rw [mC_75]; decide +kernel
theorem d75_25 : decode (mC 75) 25 = .ok (.iload_n 1, 1) := by rw [mC_75]; decide +kernel
theorem d75_26 : decode (mC 75) 26 = .ok (.ireturn, 1) := by rw [mC_75]; decide +kernel
theorem s75_0 {S : Nat × (Nat → Int32)} {L : List (Option Value)} {st : List Value} {n : Nat} {Q : xQ} {μ : xM} {a : Nat} (hl : L[0]? = some (some (.ref a))) (h : x_V S 75 1 L (.ref a :: st) μ n Q) : x_V S 75 0 L (st) μ n Q := x_aload_n d75_0 hl h
theorem s75_0N {S : Nat × (Nat → Int32)} {L : List (Option Value)} {st : List Value} {n : Nat} {Q : xQ} {μ : xM} (hl : L[0]? = some (some .null)) (h : x_V S 75 1 L (.null :: st) μ n Q) : x_V S 75 0 L st μ n Q := x_aload_nN d75_0 hl h
theorem s75_1 {S : Nat × (Nat → Int32)} {L : List (Option Value)} {st : List Value} {n : Nat} {Q : xQ} {g : Nat → Nat → Int} {a : Nat} {v : Value} (hs : x_sh a = (0, 3)) (hp : x_pt a 2 = some v) (h : x_V S 75 4 L (v :: st) (x_vm g) n Q) : x_V S 75 1 L (.ref a :: st) (x_vm g) n Q := v_getp (i := 2) cf0 d75_1 (by decide) w225 hs hp h
theorem s75_4 {S : Nat × (Nat → Int32)} {L : List (Option Value)} {st : List Value} {n : Nat} {Q : xQ} {g : Nat → Nat → Int} {a : Nat} {v : Value} (hs : x_sh a = (4, 12)) (hp : x_pt a 0 = some v) (h : x_V S 75 7 L (v :: st) (x_vm g) n Q) : x_V S 75 4 L (.ref a :: st) (x_vm g) n Q := v_getp (i := 0) cf4 d75_4 (by decide) w179 hs hp h
theorem s75_7 {S : Nat × (Nat → Int32)} {L : List (Option Value)} {st : List Value} {n : Nat} {Q : xQ} {μ : xM}  {a : Nat} (hs : x_sh a = (5, 3)) (hst : st.length ≤ 4) (h : x_V S 38 0 [some (.ref a)] [] μ n (x_bk S 75 7 L st Q)) : x_V S 75 7 L (.ref a :: st) μ n Q := x_callV (k' := 38) (as := []) (na := 0) d75_7 ⟨w240, by decide +kernel, by decide, by decide, by decide, by decide, by decide⟩ cf5 w237 w238 w239 (by decide +kernel) rfl hs (fun v hv => by
    cases hv) hst h
theorem s75_10 {S : Nat × (Nat → Int32)} {L : List (Option Value)} {st : List Value} {n : Nat} {Q : xQ} {μ : xM} {a : Nat} (hl : L[0]? = some (some (.ref a))) (h : x_V S 75 11 L (.ref a :: st) μ n Q) : x_V S 75 10 L (st) μ n Q := x_aload_n d75_10 hl h
theorem s75_10N {S : Nat × (Nat → Int32)} {L : List (Option Value)} {st : List Value} {n : Nat} {Q : xQ} {μ : xM} (hl : L[0]? = some (some .null)) (h : x_V S 75 11 L (.null :: st) μ n Q) : x_V S 75 10 L st μ n Q := x_aload_nN d75_10 hl h
theorem s75_11 {S : Nat × (Nat → Int32)} {L : List (Option Value)} {st : List Value} {n : Nat} {Q : xQ} {g : Nat → Nat → Int} {a : Nat} {v : Value} (hs : x_sh a = (0, 3)) (hp : x_pt a 2 = some v) (h : x_V S 75 14 L (v :: st) (x_vm g) n Q) : x_V S 75 11 L (.ref a :: st) (x_vm g) n Q := v_getp (i := 2) cf0 d75_11 (by decide) w225 hs hp h
theorem s75_14 {S : Nat × (Nat → Int32)} {L : List (Option Value)} {st : List Value} {n : Nat} {Q : xQ} {g : Nat → Nat → Int} {a : Nat} (hs : x_sh a = (4, 12)) (hp : x_pt a 6 = none) (ha : a ≠ x_out) (h : x_V S 75 17 L (.int (I (g a 6)) :: st) (x_vm g) n Q) : x_V S 75 14 L (.ref a :: st) (x_vm g) n Q := v_get (i := 6) cf4 d75_14 (by decide) w190 hs hp ha h
theorem s75_17 {S : Nat × (Nat → Int32)} {L : List (Option Value)} {st : List Value} {n : Nat} {Q : xQ} {μ : xM} {x : Int32} (h : x_V S 75 18 (L.set 1 (some (.int x))) (st) μ n Q) : x_V S 75 17 L (.int x :: st) μ n Q := x_istore_n d75_17 (by decide) h
theorem s75_18 {S : Nat × (Nat → Int32)} {L : List (Option Value)} {st : List Value} {n : Nat} {Q : xQ} {μ : xM} {a : Nat} (hl : L[0]? = some (some (.ref a))) (h : x_V S 75 19 L (.ref a :: st) μ n Q) : x_V S 75 18 L (st) μ n Q := x_aload_n d75_18 hl h
theorem s75_18N {S : Nat × (Nat → Int32)} {L : List (Option Value)} {st : List Value} {n : Nat} {Q : xQ} {μ : xM} (hl : L[0]? = some (some .null)) (h : x_V S 75 19 L (.null :: st) μ n Q) : x_V S 75 18 L st μ n Q := x_aload_nN d75_18 hl h
theorem s75_19 {S : Nat × (Nat → Int32)} {L : List (Option Value)} {st : List Value} {n : Nat} {Q : xQ} {g : Nat → Nat → Int} {a : Nat} {v : Value} (hs : x_sh a = (0, 3)) (hp : x_pt a 2 = some v) (h : x_V S 75 22 L (v :: st) (x_vm g) n Q) : x_V S 75 19 L (.ref a :: st) (x_vm g) n Q := v_getp (i := 2) cf0 d75_19 (by decide) w225 hs hp h
theorem s75_22 {S : Nat × (Nat → Int32)} {L : List (Option Value)} {st : List Value} {n : Nat} {Q : xQ} {μ : xM}  {a : Nat} (hs : x_sh a = (4, 12)) (hst : st.length ≤ 4) (h : x_V S 57 0 [some (.ref a)] [] μ n (x_bk S 75 22 L st Q)) : x_V S 75 22 L (.ref a :: st) μ n Q := x_callV (k' := 57) (as := []) (na := 0) d75_22 ⟨w272, by decide +kernel, by decide, by decide, by decide, by decide, by decide⟩ cf4 w281 w270 w271 (by decide +kernel) rfl hs (fun v hv => by
    cases hv) hst h
theorem s75_25 {S : Nat × (Nat → Int32)} {L : List (Option Value)} {st : List Value} {n : Nat} {Q : xQ} {μ : xM} {x : Int32} (hl : L[1]? = some (some (.int x))) (h : x_V S 75 26 L (.int x :: st) μ n Q) : x_V S 75 25 L (st) μ n Q := x_iload_n d75_25 hl h
theorem s75_26 {S : Nat × (Nat → Int32)} {L : List (Option Value)} {st : List Value} {n : Nat} {Q : xQ} {μ : xM} {v : Int} (hv : v = 0 ∨ v = 1) (h : Q (.inl (some (.int (I v)))) μ n) : x_V S 75 26 L (.int (I v) :: []) μ n Q := v_zreturn d75_26 rfl hv h
theorem mC_76 : mC 76 = prog_1_method_8_code := rfl
theorem d76_0 : decode (mC 76) 0 = .ok (.aload_n 0, 1) := by rw [mC_76]; decide +kernel
theorem d76_1 : decode (mC 76) 1 = .ok (.getfield 26, 3) := by rw [mC_76]; decide +kernel
theorem d76_4 : decode (mC 76) 4 = .ok (.getfield 120, 3) := by rw [mC_76]; decide +kernel
theorem d76_7 : decode (mC 76) 7 = .ok (.iload_n 1, 1) := by rw [mC_76]; decide +kernel
theorem d76_8 : decode (mC 76) 8 = .ok (.invokevirtual 124, 3) := by rw [mC_76]; decide +kernel
theorem d76_11 : decode (mC 76) 11 = .ok (.astore_n 3, 1) := by rw [mC_76]; decide +kernel
theorem d76_12 : decode (mC 76) 12 = .ok (.aload_n 3, 1) := by rw [mC_76]; decide +kernel
theorem d76_13 : decode (mC 76) 13 = .ok (.ifnonnull 11, 3) := by rw [mC_76]; decide +kernel
theorem d76_16 : decode (mC 76) 16 = .ok (.new 130, 3) := by rw [mC_76]; decide +kernel
theorem d76_19 : decode (mC 76) 19 = .ok (.dup, 1) := by rw [mC_76]; decide +kernel
theorem d76_20 : decode (mC 76) 20 = .ok (.invokespecial 132, 3) := by rw [mC_76]; decide +kernel
theorem d76_23 : decode (mC 76) 23 = .ok (.athrow, 1) := by rw [mC_76]; decide +kernel
theorem d76_24 : decode (mC 76) 24 = .ok (.iload_n 2, 1) := by rw [mC_76]; decide +kernel
theorem d76_25 : decode (mC 76) 25 = .ok (.iconst 1, 1) := by rw [mC_76]; decide +kernel
theorem d76_26 : decode (mC 76) 26 = .ok (.if_icmp .lt 11, 3) := by rw [mC_76]; decide +kernel
theorem d76_29 : decode (mC 76) 29 = .ok (.iload_n 2, 1) := by rw [mC_76]; decide +kernel
theorem d76_30 : decode (mC 76) 30 = .ok (.aload_n 3, 1) := by rw [mC_76]; decide +kernel
theorem d76_31 : decode (mC 76) 31 = .ok (.invokevirtual 133, 3) := by rw [mC_76]; decide +kernel
theorem d76_34 : decode (mC 76) 34 = .ok (.if_icmp .le 11, 3) := by rw [mC_76]; decide +kernel
theorem d76_37 : decode (mC 76) 37 = .ok (.new 39, 3) := by rw [mC_76]; decide +kernel
theorem d76_40 : decode (mC 76) 40 = .ok (.dup, 1) := by rw [mC_76]; decide +kernel
theorem d76_41 : decode (mC 76) 41 = .ok (.invokespecial 41, 3) := by rw [mC_76]; decide +kernel
theorem d76_44 : decode (mC 76) 44 = .ok (.athrow, 1) := by rw [mC_76]; decide +kernel
theorem d76_45 : decode (mC 76) 45 = .ok (.aload_n 0, 1) := by rw [mC_76]; decide +kernel
theorem d76_46 : decode (mC 76) 46 = .ok (.getfield 26, 3) := by rw [mC_76]; decide +kernel
theorem d76_49 : decode (mC 76) 49 = .ok (.getfield 42, 3) := by rw [mC_76]; decide +kernel
theorem d76_52 : decode (mC 76) 52 = .ok (.invokevirtual 46, 3) := by rw [mC_76]; decide +kernel
theorem d76_55 : decode (mC 76) 55 = .ok (.aload_n 3, 1) := by rw [mC_76]; decide +kernel
theorem d76_56 : decode (mC 76) 56 = .ok (.dup, 1) := by rw [mC_76]; decide +kernel
theorem d76_57 : decode (mC 76) 57 = .ok (.getfield 139, 3) := by rw [mC_76]; decide +kernel
theorem d76_60 : decode (mC 76) 60 = .ok (.iload_n 2, 1) := by rw [mC_76]; decide +kernel
theorem d76_61 : decode (mC 76) 61 = .ok (.iadd, 1) := by rw [mC_76]; decide +kernel
theorem d76_62 : decode (mC 76) 62 = .ok (.putfield 139, 3) := by rw [mC_76]; decide +kernel
theorem d76_65 : decode (mC 76) 65 = .ok (.aload_n 0, 1) := by rw [mC_76]; decide +kernel
theorem d76_66 : decode (mC 76) 66 = .ok (.getfield 26, 3) := by rw [mC_76]; decide +kernel
theorem d76_69 : decode (mC 76) 69 = .ok (.iload_n 1, 1) := by rw [mC_76]; decide +kernel
theorem d76_70 : decode (mC 76) 70 = .ok (.aload_n 3, 1) := by rw [mC_76]; decide +kernel
theorem d76_71 : decode (mC 76) 71 = .ok (.invokevirtual 142, 3) := by rw [mC_76]; decide +kernel
theorem d76_74 : decode (mC 76) 74 = .ok (.aload_n 3, 1) := by rw [mC_76]; decide +kernel
theorem d76_75 : decode (mC 76) 75 = .ok (.getfield 139, 3) := by rw [mC_76]; decide +kernel
theorem d76_78 : decode (mC 76) 78 = .ok (.ireturn, 1) := by rw [mC_76]; decide +kernel
theorem s76_0 {S : Nat × (Nat → Int32)} {L : List (Option Value)} {st : List Value} {n : Nat} {Q : xQ} {μ : xM} {a : Nat} (hl : L[0]? = some (some (.ref a))) (h : x_V S 76 1 L (.ref a :: st) μ n Q) : x_V S 76 0 L (st) μ n Q := x_aload_n d76_0 hl h
theorem s76_0N {S : Nat × (Nat → Int32)} {L : List (Option Value)} {st : List Value} {n : Nat} {Q : xQ} {μ : xM} (hl : L[0]? = some (some .null)) (h : x_V S 76 1 L (.null :: st) μ n Q) : x_V S 76 0 L st μ n Q := x_aload_nN d76_0 hl h
theorem s76_1 {S : Nat × (Nat → Int32)} {L : List (Option Value)} {st : List Value} {n : Nat} {Q : xQ} {g : Nat → Nat → Int} {a : Nat} {v : Value} (hs : x_sh a = (0, 3)) (hp : x_pt a 2 = some v) (h : x_V S 76 4 L (v :: st) (x_vm g) n Q) : x_V S 76 1 L (.ref a :: st) (x_vm g) n Q := v_getp (i := 2) cf0 d76_1 (by decide) w225 hs hp h
theorem s76_4 {S : Nat × (Nat → Int32)} {L : List (Option Value)} {st : List Value} {n : Nat} {Q : xQ} {g : Nat → Nat → Int} {a : Nat} {v : Value} (hs : x_sh a = (4, 12)) (hp : x_pt a 1 = some v) (h : x_V S 76 7 L (v :: st) (x_vm g) n Q) : x_V S 76 4 L (.ref a :: st) (x_vm g) n Q := v_getp (i := 1) cf4 d76_4 (by decide) w181 hs hp h
theorem s76_7 {S : Nat × (Nat → Int32)} {L : List (Option Value)} {st : List Value} {n : Nat} {Q : xQ} {μ : xM} {x : Int32} (hl : L[1]? = some (some (.int x))) (h : x_V S 76 8 L (.int x :: st) μ n Q) : x_V S 76 7 L (st) μ n Q := x_iload_n d76_7 hl h
theorem s76_8 {S : Nat × (Nat → Int32)} {L : List (Option Value)} {st : List Value} {n : Nat} {Q : xQ} {μ : xM} {x0 : Int32} {a : Nat} (hs : x_sh a = (6, 4)) (hst : st.length ≤ 4) (h : x_V S 48 0 [some (.ref a), some (.int x0), none] [] μ n (x_bk S 76 8 L st Q)) : x_V S 76 8 L (.int x0 :: .ref a :: st) μ n Q := x_callV (k' := 48) (as := [.int x0]) (na := 1) d76_8 ⟨w594, by decide +kernel, by decide, by decide, by decide, by decide, by decide⟩ cf6 w631 w592 w593 (by decide +kernel) rfl hs (fun v hv => by
    simp only [List.mem_cons, List.not_mem_nil, or_false] at hv
    rcases hv with rfl <;> first | rfl | assumption) hst h
theorem s76_11 {S : Nat × (Nat → Int32)} {L : List (Option Value)} {st : List Value} {n : Nat} {Q : xQ} {μ : xM} {a : Nat} (h : x_V S 76 12 (L.set 3 (some (.ref a))) (st) μ n Q) : x_V S 76 11 L (.ref a :: st) μ n Q := x_astore_n d76_11 (by decide) h
theorem s76_11N {S : Nat × (Nat → Int32)} {L : List (Option Value)} {st : List Value} {n : Nat} {Q : xQ} {μ : xM} (h : x_V S 76 12 (L.set 3 (some .null)) (st) μ n Q) : x_V S 76 11 L (.null :: st) μ n Q := x_astore_nN d76_11 (by decide) h
theorem s76_12 {S : Nat × (Nat → Int32)} {L : List (Option Value)} {st : List Value} {n : Nat} {Q : xQ} {μ : xM} {a : Nat} (hl : L[3]? = some (some (.ref a))) (h : x_V S 76 13 L (.ref a :: st) μ n Q) : x_V S 76 12 L (st) μ n Q := x_aload_n d76_12 hl h
theorem s76_12N {S : Nat × (Nat → Int32)} {L : List (Option Value)} {st : List Value} {n : Nat} {Q : xQ} {μ : xM} (hl : L[3]? = some (some .null)) (h : x_V S 76 13 L (.null :: st) μ n Q) : x_V S 76 12 L st μ n Q := x_aload_nN d76_12 hl h
theorem s76_13 {S : Nat × (Nat → Int32)} {L : List (Option Value)} {st : List Value} {n : Nat} {Q : xQ} {μ : xM} {a : Nat} (h : x_V S 76 24 L (st) μ n Q) : x_V S 76 13 L (.ref a :: st) μ n Q := x_ifnonnull_y (tgt := 24) (by decide) d76_13 h
theorem s76_13N {S : Nat × (Nat → Int32)} {L : List (Option Value)} {st : List Value} {n : Nat} {Q : xQ} {μ : xM} (h : x_V S 76 16 L (st) μ n Q) : x_V S 76 13 L (.null :: st) μ n Q := x_ifnonnull_n d76_13 h
theorem s76_16 {S : Nat × (Nat → Int32)} {L : List (Option Value)} {st : List Value} {n : Nat} {Q : xQ} {μ : xM}  (hsh : x_sh n = (99, 6)) (hn : n < x_NM) (hst : st.length ≤ 4) (h : Q (.inr 3) μ (n + 1)) : x_V S 76 16 L (st) μ n Q := x_throw (x := 3) (names := ["java/lang/RuntimeException", "java/lang/Exception"]) d76_16 d76_19 d76_20 d76_23 w632 w633 w19 (by decide +kernel) (by decide +kernel) ta_3 rfl hsh hn (by decide) (by decide) hst h
theorem s76_24 {S : Nat × (Nat → Int32)} {L : List (Option Value)} {st : List Value} {n : Nat} {Q : xQ} {μ : xM} {x : Int32} (hl : L[2]? = some (some (.int x))) (h : x_V S 76 25 L (.int x :: st) μ n Q) : x_V S 76 24 L (st) μ n Q := x_iload_n d76_24 hl h
theorem s76_25 {S : Nat × (Nat → Int32)} {L : List (Option Value)} {st : List Value} {n : Nat} {Q : xQ} {μ : xM}  (h : x_V S 76 26 L (.int (I 1) :: st) μ n Q) : x_V S 76 25 L (st) μ n Q := x_iconst (by decide +kernel) d76_25 h
theorem s76_26 {S : Nat × (Nat → Int32)} {L : List (Option Value)} {st : List Value} {n : Nat} {Q : xQ} {μ : xM} {x y : Int} (hx : ib x) (hy : ib y) (kt : x < y → x_V S 76 37 L (st) μ n Q) (kf : y ≤ x → x_V S 76 29 L (st) μ n Q) : x_V S 76 26 L (.int (I y) :: .int (I x) :: st) μ n Q := v_icmp_lt d76_26 (by decide) hx hy kt kf
theorem s76_29 {S : Nat × (Nat → Int32)} {L : List (Option Value)} {st : List Value} {n : Nat} {Q : xQ} {μ : xM} {x : Int32} (hl : L[2]? = some (some (.int x))) (h : x_V S 76 30 L (.int x :: st) μ n Q) : x_V S 76 29 L (st) μ n Q := x_iload_n d76_29 hl h
theorem s76_30 {S : Nat × (Nat → Int32)} {L : List (Option Value)} {st : List Value} {n : Nat} {Q : xQ} {μ : xM} {a : Nat} (hl : L[3]? = some (some (.ref a))) (h : x_V S 76 31 L (.ref a :: st) μ n Q) : x_V S 76 30 L (st) μ n Q := x_aload_n d76_30 hl h
theorem s76_30N {S : Nat × (Nat → Int32)} {L : List (Option Value)} {st : List Value} {n : Nat} {Q : xQ} {μ : xM} (hl : L[3]? = some (some .null)) (h : x_V S 76 31 L (.null :: st) μ n Q) : x_V S 76 30 L st μ n Q := x_aload_nN d76_30 hl h
theorem s76_31 {S : Nat × (Nat → Int32)} {L : List (Option Value)} {st : List Value} {n : Nat} {Q : xQ} {μ : xM}  {a : Nat} (hs : x_sh a = (7, 5)) (hst : st.length ≤ 4) (h : x_V S 19 0 [some (.ref a)] [] μ n (x_bk S 76 31 L st Q)) : x_V S 76 31 L (.ref a :: st) μ n Q := x_callV (k' := 19) (as := []) (na := 0) d76_31 ⟨w618, by decide +kernel, by decide, by decide, by decide, by decide, by decide⟩ cf7 w647 w616 w617 (by decide +kernel) rfl hs (fun v hv => by
    cases hv) hst h
theorem s76_34 {S : Nat × (Nat → Int32)} {L : List (Option Value)} {st : List Value} {n : Nat} {Q : xQ} {μ : xM} {x y : Int} (hx : ib x) (hy : ib y) (kt : x ≤ y → x_V S 76 45 L (st) μ n Q) (kf : y < x → x_V S 76 37 L (st) μ n Q) : x_V S 76 34 L (.int (I y) :: .int (I x) :: st) μ n Q := v_icmp_le d76_34 (by decide) hx hy kt kf
theorem s76_37 {S : Nat × (Nat → Int32)} {L : List (Option Value)} {st : List Value} {n : Nat} {Q : xQ} {μ : xM}  (hsh : x_sh n = (99, 6)) (hn : n < x_NM) (hst : st.length ≤ 4) (h : Q (.inr 0) μ (n + 1)) : x_V S 76 37 L (st) μ n Q := x_throw (x := 0) (names := ["java/lang/RuntimeException", "java/lang/Exception"]) d76_37 d76_40 d76_41 d76_44 w306 w307 w15 (by decide +kernel) (by decide +kernel) ta_0 rfl hsh hn (by decide) (by decide) hst h
theorem s76_45 {S : Nat × (Nat → Int32)} {L : List (Option Value)} {st : List Value} {n : Nat} {Q : xQ} {μ : xM} {a : Nat} (hl : L[0]? = some (some (.ref a))) (h : x_V S 76 46 L (.ref a :: st) μ n Q) : x_V S 76 45 L (st) μ n Q := x_aload_n d76_45 hl h
theorem s76_45N {S : Nat × (Nat → Int32)} {L : List (Option Value)} {st : List Value} {n : Nat} {Q : xQ} {μ : xM} (hl : L[0]? = some (some .null)) (h : x_V S 76 46 L (.null :: st) μ n Q) : x_V S 76 45 L st μ n Q := x_aload_nN d76_45 hl h
theorem s76_46 {S : Nat × (Nat → Int32)} {L : List (Option Value)} {st : List Value} {n : Nat} {Q : xQ} {g : Nat → Nat → Int} {a : Nat} {v : Value} (hs : x_sh a = (0, 3)) (hp : x_pt a 2 = some v) (h : x_V S 76 49 L (v :: st) (x_vm g) n Q) : x_V S 76 46 L (.ref a :: st) (x_vm g) n Q := v_getp (i := 2) cf0 d76_46 (by decide) w225 hs hp h
theorem s76_49 {S : Nat × (Nat → Int32)} {L : List (Option Value)} {st : List Value} {n : Nat} {Q : xQ} {g : Nat → Nat → Int} {a : Nat} {v : Value} (hs : x_sh a = (4, 12)) (hp : x_pt a 0 = some v) (h : x_V S 76 52 L (v :: st) (x_vm g) n Q) : x_V S 76 49 L (.ref a :: st) (x_vm g) n Q := v_getp (i := 0) cf4 d76_49 (by decide) w179 hs hp h
theorem s76_52 {S : Nat × (Nat → Int32)} {L : List (Option Value)} {st : List Value} {n : Nat} {Q : xQ} {μ : xM}  {a : Nat} (hs : x_sh a = (5, 3)) (hst : st.length ≤ 4) (h : x_V S 38 0 [some (.ref a)] [] μ n (x_bk S 76 52 L st Q)) : x_V S 76 52 L (.ref a :: st) μ n Q := x_callV (k' := 38) (as := []) (na := 0) d76_52 ⟨w240, by decide +kernel, by decide, by decide, by decide, by decide, by decide⟩ cf5 w237 w238 w239 (by decide +kernel) rfl hs (fun v hv => by
    cases hv) hst h
theorem s76_55 {S : Nat × (Nat → Int32)} {L : List (Option Value)} {st : List Value} {n : Nat} {Q : xQ} {μ : xM} {a : Nat} (hl : L[3]? = some (some (.ref a))) (h : x_V S 76 56 L (.ref a :: st) μ n Q) : x_V S 76 55 L (st) μ n Q := x_aload_n d76_55 hl h
theorem s76_55N {S : Nat × (Nat → Int32)} {L : List (Option Value)} {st : List Value} {n : Nat} {Q : xQ} {μ : xM} (hl : L[3]? = some (some .null)) (h : x_V S 76 56 L (.null :: st) μ n Q) : x_V S 76 55 L st μ n Q := x_aload_nN d76_55 hl h
theorem s76_56 {S : Nat × (Nat → Int32)} {L : List (Option Value)} {st : List Value} {n : Nat} {Q : xQ} {μ : xM} {v : Value} (hc : v.category = 1) (h : x_V S 76 57 L (v :: v :: st) μ n Q) : x_V S 76 56 L (v :: st) μ n Q := x_dup hc d76_56 h
theorem s76_57 {S : Nat × (Nat → Int32)} {L : List (Option Value)} {st : List Value} {n : Nat} {Q : xQ} {g : Nat → Nat → Int} {a : Nat} (hs : x_sh a = (7, 5)) (hp : x_pt a 3 = none) (ha : a ≠ x_out) (h : x_V S 76 60 L (.int (I (g a 3)) :: st) (x_vm g) n Q) : x_V S 76 57 L (.ref a :: st) (x_vm g) n Q := v_get (i := 3) cf7 d76_57 (by decide) w136 hs hp ha h
theorem s76_60 {S : Nat × (Nat → Int32)} {L : List (Option Value)} {st : List Value} {n : Nat} {Q : xQ} {μ : xM} {x : Int32} (hl : L[2]? = some (some (.int x))) (h : x_V S 76 61 L (.int x :: st) μ n Q) : x_V S 76 60 L (st) μ n Q := x_iload_n d76_60 hl h
theorem s76_61 {S : Nat × (Nat → Int32)} {L : List (Option Value)} {st : List Value} {n : Nat} {Q : xQ} {μ : xM} {x y : Int} (h : x_V S 76 62 L (.int (I (x + y)) :: st) μ n Q) : x_V S 76 61 L (.int (I y) :: .int (I x) :: st) μ n Q := v_iadd d76_61 h
theorem s76_62 {S : Nat × (Nat → Int32)} {L : List (Option Value)} {st : List Value} {n : Nat} {Q : xQ} {g : Nat → Nat → Int} {a : Nat} {x : Int} (hs : x_sh a = (7, 5)) (hp : x_pt a 3 = none) (ha : a ≠ x_out) (h : x_V S 76 65 L (st) (x_vm (x_uf g a 3 x)) n Q) : x_V S 76 62 L (.int (I x) :: .ref a :: st) (x_vm g) n Q := v_put (i := 3) cf7 d76_62 (by decide) rfl w136 hs rfl hp ha h
theorem s76_65 {S : Nat × (Nat → Int32)} {L : List (Option Value)} {st : List Value} {n : Nat} {Q : xQ} {μ : xM} {a : Nat} (hl : L[0]? = some (some (.ref a))) (h : x_V S 76 66 L (.ref a :: st) μ n Q) : x_V S 76 65 L (st) μ n Q := x_aload_n d76_65 hl h
theorem s76_65N {S : Nat × (Nat → Int32)} {L : List (Option Value)} {st : List Value} {n : Nat} {Q : xQ} {μ : xM} (hl : L[0]? = some (some .null)) (h : x_V S 76 66 L (.null :: st) μ n Q) : x_V S 76 65 L st μ n Q := x_aload_nN d76_65 hl h
theorem s76_66 {S : Nat × (Nat → Int32)} {L : List (Option Value)} {st : List Value} {n : Nat} {Q : xQ} {g : Nat → Nat → Int} {a : Nat} {v : Value} (hs : x_sh a = (0, 3)) (hp : x_pt a 2 = some v) (h : x_V S 76 69 L (v :: st) (x_vm g) n Q) : x_V S 76 66 L (.ref a :: st) (x_vm g) n Q := v_getp (i := 2) cf0 d76_66 (by decide) w225 hs hp h
theorem s76_69 {S : Nat × (Nat → Int32)} {L : List (Option Value)} {st : List Value} {n : Nat} {Q : xQ} {μ : xM} {x : Int32} (hl : L[1]? = some (some (.int x))) (h : x_V S 76 70 L (.int x :: st) μ n Q) : x_V S 76 69 L (st) μ n Q := x_iload_n d76_69 hl h
theorem s76_70 {S : Nat × (Nat → Int32)} {L : List (Option Value)} {st : List Value} {n : Nat} {Q : xQ} {μ : xM} {a : Nat} (hl : L[3]? = some (some (.ref a))) (h : x_V S 76 71 L (.ref a :: st) μ n Q) : x_V S 76 70 L (st) μ n Q := x_aload_n d76_70 hl h
theorem s76_70N {S : Nat × (Nat → Int32)} {L : List (Option Value)} {st : List Value} {n : Nat} {Q : xQ} {μ : xM} (hl : L[3]? = some (some .null)) (h : x_V S 76 71 L (.null :: st) μ n Q) : x_V S 76 70 L st μ n Q := x_aload_nN d76_70 hl h
theorem s76_71 {S : Nat × (Nat → Int32)} {L : List (Option Value)} {st : List Value} {n : Nat} {Q : xQ} {μ : xM} {x0 : Int32} {v1 : Value} (hc1 : v1.category = 1) {a : Nat} (hs : x_sh a = (4, 12)) (hst : st.length ≤ 4) (h : x_V S 58 0 [some (.ref a), some (.int x0), some (v1), none, none, none] [] μ n (x_bk S 76 71 L st Q)) : x_V S 76 71 L (v1 :: .int x0 :: .ref a :: st) μ n Q := x_callV (k' := 58) (as := [.int x0, v1]) (na := 2) d76_71 ⟨w610, by decide +kernel, by decide, by decide, by decide, by decide, by decide⟩ cf4 w648 w608 w609 (by decide +kernel) rfl hs (fun v hv => by
    simp only [List.mem_cons, List.not_mem_nil, or_false] at hv
    rcases hv with rfl | rfl <;> first | rfl | assumption) hst h
theorem s76_74 {S : Nat × (Nat → Int32)} {L : List (Option Value)} {st : List Value} {n : Nat} {Q : xQ} {μ : xM} {a : Nat} (hl : L[3]? = some (some (.ref a))) (h : x_V S 76 75 L (.ref a :: st) μ n Q) : x_V S 76 74 L (st) μ n Q := x_aload_n d76_74 hl h
theorem s76_74N {S : Nat × (Nat → Int32)} {L : List (Option Value)} {st : List Value} {n : Nat} {Q : xQ} {μ : xM} (hl : L[3]? = some (some .null)) (h : x_V S 76 75 L (.null :: st) μ n Q) : x_V S 76 74 L st μ n Q := x_aload_nN d76_74 hl h
theorem s76_75 {S : Nat × (Nat → Int32)} {L : List (Option Value)} {st : List Value} {n : Nat} {Q : xQ} {g : Nat → Nat → Int} {a : Nat} (hs : x_sh a = (7, 5)) (hp : x_pt a 3 = none) (ha : a ≠ x_out) (h : x_V S 76 78 L (.int (I (g a 3)) :: st) (x_vm g) n Q) : x_V S 76 75 L (.ref a :: st) (x_vm g) n Q := v_get (i := 3) cf7 d76_75 (by decide) w136 hs hp ha h
theorem s76_78 {S : Nat × (Nat → Int32)} {L : List (Option Value)} {st : List Value} {n : Nat} {Q : xQ} {μ : xM} {x : Int32} (h : Q (.inl (some (.int x))) μ n) : x_V S 76 78 L (.int x :: []) μ n Q := x_ireturn d76_78 rfl rfl h
theorem mC_77 : mC 77 = prog_1_method_9_code := rfl
theorem d77_0 : decode (mC 77) 0 = .ok (.aload_n 0, 1) := by rw [mC_77]; decide +kernel
theorem d77_1 : decode (mC 77) 1 = .ok (.getfield 26, 3) := by rw [mC_77]; decide +kernel
theorem d77_4 : decode (mC 77) 4 = .ok (.getfield 42, 3) := by rw [mC_77]; decide +kernel
theorem d77_7 : decode (mC 77) 7 = .ok (.getfield 146, 3) := by rw [mC_77]; decide +kernel
theorem d77_10 : decode (mC 77) 10 = .ok (.ireturn, 1) := by rw [mC_77]; decide +kernel
theorem s77_0 {S : Nat × (Nat → Int32)} {L : List (Option Value)} {st : List Value} {n : Nat} {Q : xQ} {μ : xM} {a : Nat} (hl : L[0]? = some (some (.ref a))) (h : x_V S 77 1 L (.ref a :: st) μ n Q) : x_V S 77 0 L (st) μ n Q := x_aload_n d77_0 hl h
theorem s77_0N {S : Nat × (Nat → Int32)} {L : List (Option Value)} {st : List Value} {n : Nat} {Q : xQ} {μ : xM} (hl : L[0]? = some (some .null)) (h : x_V S 77 1 L (.null :: st) μ n Q) : x_V S 77 0 L st μ n Q := x_aload_nN d77_0 hl h
theorem s77_1 {S : Nat × (Nat → Int32)} {L : List (Option Value)} {st : List Value} {n : Nat} {Q : xQ} {g : Nat → Nat → Int} {a : Nat} {v : Value} (hs : x_sh a = (0, 3)) (hp : x_pt a 2 = some v) (h : x_V S 77 4 L (v :: st) (x_vm g) n Q) : x_V S 77 1 L (.ref a :: st) (x_vm g) n Q := v_getp (i := 2) cf0 d77_1 (by decide) w225 hs hp h
theorem s77_4 {S : Nat × (Nat → Int32)} {L : List (Option Value)} {st : List Value} {n : Nat} {Q : xQ} {g : Nat → Nat → Int} {a : Nat} {v : Value} (hs : x_sh a = (4, 12)) (hp : x_pt a 0 = some v) (h : x_V S 77 7 L (v :: st) (x_vm g) n Q) : x_V S 77 4 L (.ref a :: st) (x_vm g) n Q := v_getp (i := 0) cf4 d77_4 (by decide) w179 hs hp h
theorem s77_7 {S : Nat × (Nat → Int32)} {L : List (Option Value)} {st : List Value} {n : Nat} {Q : xQ} {g : Nat → Nat → Int} {a : Nat} (hs : x_sh a = (5, 3)) (hp : x_pt a 2 = none) (ha : a ≠ x_out) (h : x_V S 77 10 L (.int (I (g a 2)) :: st) (x_vm g) n Q) : x_V S 77 7 L (.ref a :: st) (x_vm g) n Q := v_get (i := 2) cf5 d77_7 (by decide) w106 hs hp ha h
theorem s77_10 {S : Nat × (Nat → Int32)} {L : List (Option Value)} {st : List Value} {n : Nat} {Q : xQ} {μ : xM} {x : Int32} (h : Q (.inl (some (.int x))) μ n) : x_V S 77 10 L (.int x :: []) μ n Q := x_ireturn d77_10 rfl rfl h
theorem mC_78 : mC 78 = prog_1_method_10_code := rfl
theorem d78_0 : decode (mC 78) 0 = .ok (.aload_n 0, 1) := by rw [mC_78]; decide +kernel
theorem d78_1 : decode (mC 78) 1 = .ok (.getfield 26, 3) := by rw [mC_78]; decide +kernel
theorem d78_4 : decode (mC 78) 4 = .ok (.getfield 42, 3) := by rw [mC_78]; decide +kernel
theorem d78_7 : decode (mC 78) 7 = .ok (.iload_n 1, 1) := by rw [mC_78]; decide +kernel
theorem d78_8 : decode (mC 78) 8 = .ok (.invokevirtual 149, 3) := by rw [mC_78]; decide +kernel
theorem d78_11 : decode (mC 78) 11 = .ok (.ifCond .ne 11, 3) := by rw [mC_78]; decide +kernel
theorem d78_14 : decode (mC 78) 14 = .ok (.new 76, 3) := by rw [mC_78]; decide +kernel
theorem d78_17 : decode (mC 78) 17 = .ok (.dup, 1) := by rw [mC_78]; decide +kernel
theorem d78_18 : decode (mC 78) 18 = .ok (.invokespecial 78, 3) := by rw [mC_78]; decide +kernel
theorem d78_21 : decode (mC 78) 21 = .ok (.athrow, 1) := by rw [mC_78]; decide +kernel
theorem d78_22 : decode (mC 78) 22 = .ok (.aload_n 0, 1) := by rw [mC_78]; decide +kernel
theorem d78_23 : decode (mC 78) 23 = .ok (.getfield 26, 3) := by rw [mC_78]; decide +kernel
theorem d78_26 : decode (mC 78) 26 = .ok (.getfield 42, 3) := by rw [mC_78]; decide +kernel
theorem d78_29 : decode (mC 78) 29 = .ok (.iload_n 1, 1) := by rw [mC_78]; decide +kernel
theorem d78_30 : decode (mC 78) 30 = .ok (.invokevirtual 152, 3) := by rw [mC_78]; decide +kernel
theorem d78_33 : decode (mC 78) 33 = .ok (.getfield 67, 3) := by rw [mC_78]; decide +kernel
theorem d78_36 : decode (mC 78) 36 = .ok (.ireturn, 1) := by rw [mC_78]; decide +kernel
theorem s78_0 {S : Nat × (Nat → Int32)} {L : List (Option Value)} {st : List Value} {n : Nat} {Q : xQ} {μ : xM} {a : Nat} (hl : L[0]? = some (some (.ref a))) (h : x_V S 78 1 L (.ref a :: st) μ n Q) : x_V S 78 0 L (st) μ n Q := x_aload_n d78_0 hl h
theorem s78_0N {S : Nat × (Nat → Int32)} {L : List (Option Value)} {st : List Value} {n : Nat} {Q : xQ} {μ : xM} (hl : L[0]? = some (some .null)) (h : x_V S 78 1 L (.null :: st) μ n Q) : x_V S 78 0 L st μ n Q := x_aload_nN d78_0 hl h
theorem s78_1 {S : Nat × (Nat → Int32)} {L : List (Option Value)} {st : List Value} {n : Nat} {Q : xQ} {g : Nat → Nat → Int} {a : Nat} {v : Value} (hs : x_sh a = (0, 3)) (hp : x_pt a 2 = some v) (h : x_V S 78 4 L (v :: st) (x_vm g) n Q) : x_V S 78 1 L (.ref a :: st) (x_vm g) n Q := v_getp (i := 2) cf0 d78_1 (by decide) w225 hs hp h
theorem s78_4 {S : Nat × (Nat → Int32)} {L : List (Option Value)} {st : List Value} {n : Nat} {Q : xQ} {g : Nat → Nat → Int} {a : Nat} {v : Value} (hs : x_sh a = (4, 12)) (hp : x_pt a 0 = some v) (h : x_V S 78 7 L (v :: st) (x_vm g) n Q) : x_V S 78 4 L (.ref a :: st) (x_vm g) n Q := v_getp (i := 0) cf4 d78_4 (by decide) w179 hs hp h
theorem s78_7 {S : Nat × (Nat → Int32)} {L : List (Option Value)} {st : List Value} {n : Nat} {Q : xQ} {μ : xM} {x : Int32} (hl : L[1]? = some (some (.int x))) (h : x_V S 78 8 L (.int x :: st) μ n Q) : x_V S 78 7 L (st) μ n Q := x_iload_n d78_7 hl h
theorem s78_8 {S : Nat × (Nat → Int32)} {L : List (Option Value)} {st : List Value} {n : Nat} {Q : xQ} {μ : xM} {x0 : Int32} {a : Nat} (hs : x_sh a = (5, 3)) (hst : st.length ≤ 4) (h : x_V S 40 0 [some (.ref a), some (.int x0)] [] μ n (x_bk S 78 8 L st Q)) : x_V S 78 8 L (.int x0 :: .ref a :: st) μ n Q := x_callV (k' := 40) (as := [.int x0]) (na := 1) d78_8 ⟨w659, by decide +kernel, by decide, by decide, by decide, by decide, by decide⟩ cf5 w656 w657 w658 (by decide +kernel) rfl hs (fun v hv => by
    simp only [List.mem_cons, List.not_mem_nil, or_false] at hv
    rcases hv with rfl <;> first | rfl | assumption) hst h
theorem s78_11 {S : Nat × (Nat → Int32)} {L : List (Option Value)} {st : List Value} {n : Nat} {Q : xQ} {μ : xM} {x : Int} (hx : ib x) (kt : x ≠ 0 → x_V S 78 22 L (st) μ n Q) (kf : x = 0 → x_V S 78 14 L (st) μ n Q) : x_V S 78 11 L (.int (I x) :: st) μ n Q := v_if_ne d78_11 (by decide) hx kt kf
theorem s78_14 {S : Nat × (Nat → Int32)} {L : List (Option Value)} {st : List Value} {n : Nat} {Q : xQ} {μ : xM}  (hsh : x_sh n = (99, 6)) (hn : n < x_NM) (hst : st.length ≤ 4) (h : Q (.inr 2) μ (n + 1)) : x_V S 78 14 L (st) μ n Q := x_throw (x := 2) (names := ["java/lang/RuntimeException", "java/lang/Exception"]) d78_14 d78_17 d78_18 d78_21 w436 w437 w16 (by decide +kernel) (by decide +kernel) ta_2 rfl hsh hn (by decide) (by decide) hst h
theorem s78_22 {S : Nat × (Nat → Int32)} {L : List (Option Value)} {st : List Value} {n : Nat} {Q : xQ} {μ : xM} {a : Nat} (hl : L[0]? = some (some (.ref a))) (h : x_V S 78 23 L (.ref a :: st) μ n Q) : x_V S 78 22 L (st) μ n Q := x_aload_n d78_22 hl h
theorem s78_22N {S : Nat × (Nat → Int32)} {L : List (Option Value)} {st : List Value} {n : Nat} {Q : xQ} {μ : xM} (hl : L[0]? = some (some .null)) (h : x_V S 78 23 L (.null :: st) μ n Q) : x_V S 78 22 L st μ n Q := x_aload_nN d78_22 hl h
theorem s78_23 {S : Nat × (Nat → Int32)} {L : List (Option Value)} {st : List Value} {n : Nat} {Q : xQ} {g : Nat → Nat → Int} {a : Nat} {v : Value} (hs : x_sh a = (0, 3)) (hp : x_pt a 2 = some v) (h : x_V S 78 26 L (v :: st) (x_vm g) n Q) : x_V S 78 23 L (.ref a :: st) (x_vm g) n Q := v_getp (i := 2) cf0 d78_23 (by decide) w225 hs hp h
theorem s78_26 {S : Nat × (Nat → Int32)} {L : List (Option Value)} {st : List Value} {n : Nat} {Q : xQ} {g : Nat → Nat → Int} {a : Nat} {v : Value} (hs : x_sh a = (4, 12)) (hp : x_pt a 0 = some v) (h : x_V S 78 29 L (v :: st) (x_vm g) n Q) : x_V S 78 26 L (.ref a :: st) (x_vm g) n Q := v_getp (i := 0) cf4 d78_26 (by decide) w179 hs hp h
theorem s78_29 {S : Nat × (Nat → Int32)} {L : List (Option Value)} {st : List Value} {n : Nat} {Q : xQ} {μ : xM} {x : Int32} (hl : L[1]? = some (some (.int x))) (h : x_V S 78 30 L (.int x :: st) μ n Q) : x_V S 78 29 L (st) μ n Q := x_iload_n d78_29 hl h
theorem s78_30 {S : Nat × (Nat → Int32)} {L : List (Option Value)} {st : List Value} {n : Nat} {Q : xQ} {μ : xM} {x0 : Int32} {a : Nat} (hs : x_sh a = (5, 3)) (hst : st.length ≤ 4) (h : x_V S 41 0 [some (.ref a), some (.int x0)] [] μ n (x_bk S 78 30 L st Q)) : x_V S 78 30 L (.int x0 :: .ref a :: st) μ n Q := x_callV (k' := 41) (as := [.int x0]) (na := 1) d78_30 ⟨w663, by decide +kernel, by decide, by decide, by decide, by decide, by decide⟩ cf5 w660 w661 w662 (by decide +kernel) rfl hs (fun v hv => by
    simp only [List.mem_cons, List.not_mem_nil, or_false] at hv
    rcases hv with rfl <;> first | rfl | assumption) hst h
theorem s78_33 {S : Nat × (Nat → Int32)} {L : List (Option Value)} {st : List Value} {n : Nat} {Q : xQ} {g : Nat → Nat → Int} {a : Nat} (hs : x_sh a = (2, 2)) (hp : x_pt a 1 = none) (ha : a ≠ x_out) (h : x_V S 78 36 L (.int (I (g a 1)) :: st) (x_vm g) n Q) : x_V S 78 33 L (.ref a :: st) (x_vm g) n Q := v_get (i := 1) cf2 d78_33 (by decide) w42 hs hp ha h
theorem s78_36 {S : Nat × (Nat → Int32)} {L : List (Option Value)} {st : List Value} {n : Nat} {Q : xQ} {μ : xM} {x : Int32} (h : Q (.inl (some (.int x))) μ n) : x_V S 78 36 L (.int x :: []) μ n Q := x_ireturn d78_36 rfl rfl h
theorem mC_79 : mC 79 = prog_1_method_11_code := rfl
theorem d79_0 : decode (mC 79) 0 = .ok (.aload_n 0, 1) := by rw [mC_79]; decide +kernel
theorem d79_1 : decode (mC 79) 1 = .ok (.getfield 26, 3) := by rw [mC_79]; decide +kernel
theorem d79_4 : decode (mC 79) 4 = .ok (.getfield 42, 3) := by rw [mC_79]; decide +kernel
theorem d79_7 : decode (mC 79) 7 = .ok (.iload_n 1, 1) := by rw [mC_79]; decide +kernel
theorem d79_8 : decode (mC 79) 8 = .ok (.invokevirtual 149, 3) := by rw [mC_79]; decide +kernel
theorem d79_11 : decode (mC 79) 11 = .ok (.ifCond .ne 11, 3) := by rw [mC_79]; decide +kernel
theorem d79_14 : decode (mC 79) 14 = .ok (.new 76, 3) := by rw [mC_79]; decide +kernel
theorem d79_17 : decode (mC 79) 17 = .ok (.dup, 1) := by rw [mC_79]; decide +kernel
theorem d79_18 : decode (mC 79) 18 = .ok (.invokespecial 78, 3) := by rw [mC_79]; decide +kernel
theorem d79_21 : decode (mC 79) 21 = .ok (.athrow, 1) := by rw [mC_79]; decide +kernel
theorem d79_22 : decode (mC 79) 22 = .ok (.aload_n 0, 1) := by rw [mC_79]; decide +kernel
theorem d79_23 : decode (mC 79) 23 = .ok (.getfield 26, 3) := by rw [mC_79]; decide +kernel
theorem d79_26 : decode (mC 79) 26 = .ok (.getfield 42, 3) := by rw [mC_79]; decide +kernel
theorem d79_29 : decode (mC 79) 29 = .ok (.iload_n 1, 1) := by rw [mC_79]; decide +kernel
theorem d79_30 : decode (mC 79) 30 = .ok (.invokevirtual 152, 3) := by rw [mC_79]; decide +kernel
theorem d79_33 : decode (mC 79) 33 = .ok (.astore_n 3, 1) := by rw [mC_79]; decide +kernel
theorem d79_34 : decode (mC 79) 34 = .ok (.aload_n 3, 1) := by rw [mC_79]; decide +kernel
theorem d79_35 : decode (mC 79) 35 = .ok (.iload_n 2, 1) := by rw [mC_79]; decide +kernel
theorem d79_36 : decode (mC 79) 36 = .ok (.invokevirtual 73, 3) := by rw [mC_79]; decide +kernel
theorem d79_39 : decode (mC 79) 39 = .ok (.ifCond .ne 11, 3) := by rw [mC_79]; decide +kernel
theorem d79_42 : decode (mC 79) 42 = .ok (.new 76, 3) := by rw [mC_79]; decide +kernel
theorem d79_45 : decode (mC 79) 45 = .ok (.dup, 1) := by rw [mC_79]; decide +kernel
theorem d79_46 : decode (mC 79) 46 = .ok (.invokespecial 78, 3) := by rw [mC_79]; decide +kernel
theorem d79_49 : decode (mC 79) 49 = .ok (.athrow, 1) := by rw [mC_79]; decide +kernel
theorem d79_50 : decode (mC 79) 50 = .ok (.aload_n 3, 1) := by rw [mC_79]; decide +kernel
theorem d79_51 : decode (mC 79) 51 = .ok (.iload_n 2, 1) := by rw [mC_79]; decide +kernel
theorem d79_52 : decode (mC 79) 52 = .ok (.invokevirtual 79, 3) := by rw [mC_79]; decide +kernel
theorem d79_55 : decode (mC 79) 55 = .ok (.ireturn, 1) := by rw [mC_79]; decide +kernel
theorem s79_0 {S : Nat × (Nat → Int32)} {L : List (Option Value)} {st : List Value} {n : Nat} {Q : xQ} {μ : xM} {a : Nat} (hl : L[0]? = some (some (.ref a))) (h : x_V S 79 1 L (.ref a :: st) μ n Q) : x_V S 79 0 L (st) μ n Q := x_aload_n d79_0 hl h
theorem s79_0N {S : Nat × (Nat → Int32)} {L : List (Option Value)} {st : List Value} {n : Nat} {Q : xQ} {μ : xM} (hl : L[0]? = some (some .null)) (h : x_V S 79 1 L (.null :: st) μ n Q) : x_V S 79 0 L st μ n Q := x_aload_nN d79_0 hl h
theorem s79_1 {S : Nat × (Nat → Int32)} {L : List (Option Value)} {st : List Value} {n : Nat} {Q : xQ} {g : Nat → Nat → Int} {a : Nat} {v : Value} (hs : x_sh a = (0, 3)) (hp : x_pt a 2 = some v) (h : x_V S 79 4 L (v :: st) (x_vm g) n Q) : x_V S 79 1 L (.ref a :: st) (x_vm g) n Q := v_getp (i := 2) cf0 d79_1 (by decide) w225 hs hp h
theorem s79_4 {S : Nat × (Nat → Int32)} {L : List (Option Value)} {st : List Value} {n : Nat} {Q : xQ} {g : Nat → Nat → Int} {a : Nat} {v : Value} (hs : x_sh a = (4, 12)) (hp : x_pt a 0 = some v) (h : x_V S 79 7 L (v :: st) (x_vm g) n Q) : x_V S 79 4 L (.ref a :: st) (x_vm g) n Q := v_getp (i := 0) cf4 d79_4 (by decide) w179 hs hp h
theorem s79_7 {S : Nat × (Nat → Int32)} {L : List (Option Value)} {st : List Value} {n : Nat} {Q : xQ} {μ : xM} {x : Int32} (hl : L[1]? = some (some (.int x))) (h : x_V S 79 8 L (.int x :: st) μ n Q) : x_V S 79 7 L (st) μ n Q := x_iload_n d79_7 hl h
theorem s79_8 {S : Nat × (Nat → Int32)} {L : List (Option Value)} {st : List Value} {n : Nat} {Q : xQ} {μ : xM} {x0 : Int32} {a : Nat} (hs : x_sh a = (5, 3)) (hst : st.length ≤ 4) (h : x_V S 40 0 [some (.ref a), some (.int x0)] [] μ n (x_bk S 79 8 L st Q)) : x_V S 79 8 L (.int x0 :: .ref a :: st) μ n Q := x_callV (k' := 40) (as := [.int x0]) (na := 1) d79_8 ⟨w659, by decide +kernel, by decide, by decide, by decide, by decide, by decide⟩ cf5 w656 w657 w658 (by decide +kernel) rfl hs (fun v hv => by
    simp only [List.mem_cons, List.not_mem_nil, or_false] at hv
    rcases hv with rfl <;> first | rfl | assumption) hst h
theorem s79_11 {S : Nat × (Nat → Int32)} {L : List (Option Value)} {st : List Value} {n : Nat} {Q : xQ} {μ : xM} {x : Int} (hx : ib x) (kt : x ≠ 0 → x_V S 79 22 L (st) μ n Q) (kf : x = 0 → x_V S 79 14 L (st) μ n Q) : x_V S 79 11 L (.int (I x) :: st) μ n Q := v_if_ne d79_11 (by decide) hx kt kf
theorem s79_14 {S : Nat × (Nat → Int32)} {L : List (Option Value)} {st : List Value} {n : Nat} {Q : xQ} {μ : xM}  (hsh : x_sh n = (99, 6)) (hn : n < x_NM) (hst : st.length ≤ 4) (h : Q (.inr 2) μ (n + 1)) : x_V S 79 14 L (st) μ n Q := x_throw (x := 2) (names := ["java/lang/RuntimeException", "java/lang/Exception"]) d79_14 d79_17 d79_18 d79_21 w436 w437 w16 (by decide +kernel) (by decide +kernel) ta_2 rfl hsh hn (by decide) (by decide) hst h
theorem s79_22 {S : Nat × (Nat → Int32)} {L : List (Option Value)} {st : List Value} {n : Nat} {Q : xQ} {μ : xM} {a : Nat} (hl : L[0]? = some (some (.ref a))) (h : x_V S 79 23 L (.ref a :: st) μ n Q) : x_V S 79 22 L (st) μ n Q := x_aload_n d79_22 hl h
theorem s79_22N {S : Nat × (Nat → Int32)} {L : List (Option Value)} {st : List Value} {n : Nat} {Q : xQ} {μ : xM} (hl : L[0]? = some (some .null)) (h : x_V S 79 23 L (.null :: st) μ n Q) : x_V S 79 22 L st μ n Q := x_aload_nN d79_22 hl h
theorem s79_23 {S : Nat × (Nat → Int32)} {L : List (Option Value)} {st : List Value} {n : Nat} {Q : xQ} {g : Nat → Nat → Int} {a : Nat} {v : Value} (hs : x_sh a = (0, 3)) (hp : x_pt a 2 = some v) (h : x_V S 79 26 L (v :: st) (x_vm g) n Q) : x_V S 79 23 L (.ref a :: st) (x_vm g) n Q := v_getp (i := 2) cf0 d79_23 (by decide) w225 hs hp h
theorem s79_26 {S : Nat × (Nat → Int32)} {L : List (Option Value)} {st : List Value} {n : Nat} {Q : xQ} {g : Nat → Nat → Int} {a : Nat} {v : Value} (hs : x_sh a = (4, 12)) (hp : x_pt a 0 = some v) (h : x_V S 79 29 L (v :: st) (x_vm g) n Q) : x_V S 79 26 L (.ref a :: st) (x_vm g) n Q := v_getp (i := 0) cf4 d79_26 (by decide) w179 hs hp h
theorem s79_29 {S : Nat × (Nat → Int32)} {L : List (Option Value)} {st : List Value} {n : Nat} {Q : xQ} {μ : xM} {x : Int32} (hl : L[1]? = some (some (.int x))) (h : x_V S 79 30 L (.int x :: st) μ n Q) : x_V S 79 29 L (st) μ n Q := x_iload_n d79_29 hl h
theorem s79_30 {S : Nat × (Nat → Int32)} {L : List (Option Value)} {st : List Value} {n : Nat} {Q : xQ} {μ : xM} {x0 : Int32} {a : Nat} (hs : x_sh a = (5, 3)) (hst : st.length ≤ 4) (h : x_V S 41 0 [some (.ref a), some (.int x0)] [] μ n (x_bk S 79 30 L st Q)) : x_V S 79 30 L (.int x0 :: .ref a :: st) μ n Q := x_callV (k' := 41) (as := [.int x0]) (na := 1) d79_30 ⟨w663, by decide +kernel, by decide, by decide, by decide, by decide, by decide⟩ cf5 w660 w661 w662 (by decide +kernel) rfl hs (fun v hv => by
    simp only [List.mem_cons, List.not_mem_nil, or_false] at hv
    rcases hv with rfl <;> first | rfl | assumption) hst h
theorem s79_33 {S : Nat × (Nat → Int32)} {L : List (Option Value)} {st : List Value} {n : Nat} {Q : xQ} {μ : xM} {a : Nat} (h : x_V S 79 34 (L.set 3 (some (.ref a))) (st) μ n Q) : x_V S 79 33 L (.ref a :: st) μ n Q := x_astore_n d79_33 (by decide) h
theorem s79_33N {S : Nat × (Nat → Int32)} {L : List (Option Value)} {st : List Value} {n : Nat} {Q : xQ} {μ : xM} (h : x_V S 79 34 (L.set 3 (some .null)) (st) μ n Q) : x_V S 79 33 L (.null :: st) μ n Q := x_astore_nN d79_33 (by decide) h
theorem s79_34 {S : Nat × (Nat → Int32)} {L : List (Option Value)} {st : List Value} {n : Nat} {Q : xQ} {μ : xM} {a : Nat} (hl : L[3]? = some (some (.ref a))) (h : x_V S 79 35 L (.ref a :: st) μ n Q) : x_V S 79 34 L (st) μ n Q := x_aload_n d79_34 hl h
theorem s79_34N {S : Nat × (Nat → Int32)} {L : List (Option Value)} {st : List Value} {n : Nat} {Q : xQ} {μ : xM} (hl : L[3]? = some (some .null)) (h : x_V S 79 35 L (.null :: st) μ n Q) : x_V S 79 34 L st μ n Q := x_aload_nN d79_34 hl h
theorem s79_35 {S : Nat × (Nat → Int32)} {L : List (Option Value)} {st : List Value} {n : Nat} {Q : xQ} {μ : xM} {x : Int32} (hl : L[2]? = some (some (.int x))) (h : x_V S 79 36 L (.int x :: st) μ n Q) : x_V S 79 35 L (st) μ n Q := x_iload_n d79_35 hl h
theorem s79_36 {S : Nat × (Nat → Int32)} {L : List (Option Value)} {st : List Value} {n : Nat} {Q : xQ} {μ : xM} {x0 : Int32} {a : Nat} (hs : x_sh a = (2, 2)) (hst : st.length ≤ 4) (h : x_V S 8 0 [some (.ref a), some (.int x0)] [] μ n (x_bk S 79 36 L st Q)) : x_V S 79 36 L (.int x0 :: .ref a :: st) μ n Q := x_callV (k' := 8) (as := [.int x0]) (na := 1) d79_36 ⟨w418, by decide +kernel, by decide, by decide, by decide, by decide, by decide⟩ cf2 w435 w416 w417 (by decide +kernel) rfl hs (fun v hv => by
    simp only [List.mem_cons, List.not_mem_nil, or_false] at hv
    rcases hv with rfl <;> first | rfl | assumption) hst h
theorem s79_39 {S : Nat × (Nat → Int32)} {L : List (Option Value)} {st : List Value} {n : Nat} {Q : xQ} {μ : xM} {x : Int} (hx : ib x) (kt : x ≠ 0 → x_V S 79 50 L (st) μ n Q) (kf : x = 0 → x_V S 79 42 L (st) μ n Q) : x_V S 79 39 L (.int (I x) :: st) μ n Q := v_if_ne d79_39 (by decide) hx kt kf
theorem s79_42 {S : Nat × (Nat → Int32)} {L : List (Option Value)} {st : List Value} {n : Nat} {Q : xQ} {μ : xM}  (hsh : x_sh n = (99, 6)) (hn : n < x_NM) (hst : st.length ≤ 4) (h : Q (.inr 2) μ (n + 1)) : x_V S 79 42 L (st) μ n Q := x_throw (x := 2) (names := ["java/lang/RuntimeException", "java/lang/Exception"]) d79_42 d79_45 d79_46 d79_49 w436 w437 w16 (by decide +kernel) (by decide +kernel) ta_2 rfl hsh hn (by decide) (by decide) hst h
theorem s79_50 {S : Nat × (Nat → Int32)} {L : List (Option Value)} {st : List Value} {n : Nat} {Q : xQ} {μ : xM} {a : Nat} (hl : L[3]? = some (some (.ref a))) (h : x_V S 79 51 L (.ref a :: st) μ n Q) : x_V S 79 50 L (st) μ n Q := x_aload_n d79_50 hl h
theorem s79_50N {S : Nat × (Nat → Int32)} {L : List (Option Value)} {st : List Value} {n : Nat} {Q : xQ} {μ : xM} (hl : L[3]? = some (some .null)) (h : x_V S 79 51 L (.null :: st) μ n Q) : x_V S 79 50 L st μ n Q := x_aload_nN d79_50 hl h
theorem s79_51 {S : Nat × (Nat → Int32)} {L : List (Option Value)} {st : List Value} {n : Nat} {Q : xQ} {μ : xM} {x : Int32} (hl : L[2]? = some (some (.int x))) (h : x_V S 79 52 L (.int x :: st) μ n Q) : x_V S 79 51 L (st) μ n Q := x_iload_n d79_51 hl h
theorem s79_52 {S : Nat × (Nat → Int32)} {L : List (Option Value)} {st : List Value} {n : Nat} {Q : xQ} {μ : xM} {x0 : Int32} {a : Nat} (hs : x_sh a = (2, 2)) (hst : st.length ≤ 4) (h : x_V S 9 0 [some (.ref a), some (.int x0)] [] μ n (x_bk S 79 52 L st Q)) : x_V S 79 52 L (.int x0 :: .ref a :: st) μ n Q := x_callV (k' := 9) (as := [.int x0]) (na := 1) d79_52 ⟨w454, by decide +kernel, by decide, by decide, by decide, by decide, by decide⟩ cf2 w451 w452 w453 (by decide +kernel) rfl hs (fun v hv => by
    simp only [List.mem_cons, List.not_mem_nil, or_false] at hv
    rcases hv with rfl <;> first | rfl | assumption) hst h
theorem s79_55 {S : Nat × (Nat → Int32)} {L : List (Option Value)} {st : List Value} {n : Nat} {Q : xQ} {μ : xM} {x : Int32} (h : Q (.inl (some (.int x))) μ n) : x_V S 79 55 L (.int x :: []) μ n Q := x_ireturn d79_55 rfl rfl h
theorem mC_80 : mC 80 = prog_1_method_12_code := rfl
theorem d80_0 : decode (mC 80) 0 = .ok (.iload_n 1, 1) := by rw [mC_80]; decide +kernel
theorem d80_1 : decode (mC 80) 1 = .ok (.tableswitch 110 0 6 #[43, 51, 59, 67, 83, 91, 102], 43) := by rw [mC_80]; decide +kernel
theorem d80_44 : decode (mC 80) 44 = .ok (.aload_n 0, 1) := by rw [mC_80]; decide +kernel
theorem d80_45 : decode (mC 80) 45 = .ok (.getfield 26, 3) := by rw [mC_80]; decide +kernel
theorem d80_48 : decode (mC 80) 48 = .ok (.getfield 156, 3) := by rw [mC_80]; decide +kernel
theorem d80_51 : decode (mC 80) 51 = .ok (.ireturn, 1) := by rw [mC_80]; decide +kernel
theorem d80_52 : decode (mC 80) 52 = .ok (.aload_n 0, 1) := by rw [mC_80]; decide +kernel
theorem d80_53 : decode (mC 80) 53 = .ok (.getfield 26, 3) := by rw [mC_80]; decide +kernel
theorem d80_56 : decode (mC 80) 56 = .ok (.getfield 159, 3) := by rw [mC_80]; decide +kernel
theorem d80_59 : decode (mC 80) 59 = .ok (.ireturn, 1) := by rw [mC_80]; decide +kernel
theorem d80_60 : decode (mC 80) 60 = .ok (.aload_n 0, 1) := by rw [mC_80]; decide +kernel
theorem d80_61 : decode (mC 80) 61 = .ok (.getfield 26, 3) := by rw [mC_80]; decide +kernel
theorem d80_64 : decode (mC 80) 64 = .ok (.getfield 162, 3) := by rw [mC_80]; decide +kernel
theorem d80_67 : decode (mC 80) 67 = .ok (.ireturn, 1) := by rw [mC_80]; decide +kernel
theorem d80_68 : decode (mC 80) 68 = .ok (.aload_n 0, 1) := by rw [mC_80]; decide +kernel
theorem d80_69 : decode (mC 80) 69 = .ok (.getfield 26, 3) := by rw [mC_80]; decide +kernel
theorem d80_72 : decode (mC 80) 72 = .ok (.getfield 113, 3) := by rw [mC_80]; decide +kernel
theorem d80_75 : decode (mC 80) 75 = .ok (.ifCond .eq 7, 3) := by rw [mC_80]; decide +kernel
theorem d80_78 : decode (mC 80) 78 = .ok (.iconst 1, 1) := by rw [mC_80]; decide +kernel
theorem d80_79 : decode (mC 80) 79 = .ok (.goto 4, 3) := by rw [mC_80]; decide +kernel
theorem d80_82 : decode (mC 80) 82 = .ok (.iconst 0, 1) := by rw [mC_80]; decide +kernel
theorem d80_83 : decode (mC 80) 83 = .ok (.ireturn, 1) := by rw [mC_80]; decide +kernel
theorem d80_84 : decode (mC 80) 84 = .ok (.aload_n 0, 1) := by rw [mC_80]; decide +kernel
theorem d80_85 : decode (mC 80) 85 = .ok (.getfield 26, 3) := by rw [mC_80]; decide +kernel
theorem d80_88 : decode (mC 80) 88 = .ok (.getfield 110, 3) := by rw [mC_80]; decide +kernel
theorem d80_91 : decode (mC 80) 91 = .ok (.ireturn, 1) := by rw [mC_80]; decide +kernel
theorem d80_92 : decode (mC 80) 92 = .ok (.aload_n 0, 1) := by rw [mC_80]; decide +kernel
theorem d80_93 : decode (mC 80) 93 = .ok (.getfield 26, 3) := by rw [mC_80]; decide +kernel
theorem d80_96 : decode (mC 80) 96 = .ok (.getfield 120, 3) := by rw [mC_80]; decide +kernel
theorem d80_99 : decode (mC 80) 99 = .ok (.getfield 165, 3) := by rw [mC_80]; decide +kernel
theorem d80_102 : decode (mC 80) 102 = .ok (.ireturn, 1) := by rw [mC_80]; decide +kernel
theorem d80_103 : decode (mC 80) 103 = .ok (.aload_n 0, 1) := by rw [mC_80]; decide +kernel
theorem d80_104 : decode (mC 80) 104 = .ok (.getfield 26, 3) := by rw [mC_80]; decide +kernel
theorem d80_107 : decode (mC 80) 107 = .ok (.getfield 166, 3) := by rw [mC_80]; decide +kernel
theorem d80_110 : decode (mC 80) 110 = .ok (.ireturn, 1) := by rw [mC_80]; decide +kernel
theorem d80_111 : decode (mC 80) 111 = .ok (.new 76, 3) := by rw [mC_80]; decide +kernel
theorem d80_114 : decode (mC 80) 114 = .ok (.dup, 1) := by rw [mC_80]; decide +kernel
theorem d80_115 : decode (mC 80) 115 = .ok (.invokespecial 78, 3) := by rw [mC_80]; decide +kernel
theorem d80_118 : decode (mC 80) 118 = .ok (.athrow, 1) := by rw [mC_80]; decide +kernel
theorem s80_0 {S : Nat × (Nat → Int32)} {L : List (Option Value)} {st : List Value} {n : Nat} {Q : xQ} {μ : xM} {x : Int32} (hl : L[1]? = some (some (.int x))) (h : x_V S 80 1 L (.int x :: st) μ n Q) : x_V S 80 0 L (st) μ n Q := x_iload_n d80_0 hl h
theorem s80_44 {S : Nat × (Nat → Int32)} {L : List (Option Value)} {st : List Value} {n : Nat} {Q : xQ} {μ : xM} {a : Nat} (hl : L[0]? = some (some (.ref a))) (h : x_V S 80 45 L (.ref a :: st) μ n Q) : x_V S 80 44 L (st) μ n Q := x_aload_n d80_44 hl h
theorem s80_44N {S : Nat × (Nat → Int32)} {L : List (Option Value)} {st : List Value} {n : Nat} {Q : xQ} {μ : xM} (hl : L[0]? = some (some .null)) (h : x_V S 80 45 L (.null :: st) μ n Q) : x_V S 80 44 L st μ n Q := x_aload_nN d80_44 hl h
theorem s80_45 {S : Nat × (Nat → Int32)} {L : List (Option Value)} {st : List Value} {n : Nat} {Q : xQ} {g : Nat → Nat → Int} {a : Nat} {v : Value} (hs : x_sh a = (0, 3)) (hp : x_pt a 2 = some v) (h : x_V S 80 48 L (v :: st) (x_vm g) n Q) : x_V S 80 45 L (.ref a :: st) (x_vm g) n Q := v_getp (i := 2) cf0 d80_45 (by decide) w225 hs hp h
theorem s80_48 {S : Nat × (Nat → Int32)} {L : List (Option Value)} {st : List Value} {n : Nat} {Q : xQ} {g : Nat → Nat → Int} {a : Nat} (hs : x_sh a = (4, 12)) (hp : x_pt a 3 = none) (ha : a ≠ x_out) (h : x_V S 80 51 L (.int (I (g a 3)) :: st) (x_vm g) n Q) : x_V S 80 48 L (.ref a :: st) (x_vm g) n Q := v_get (i := 3) cf4 d80_48 (by decide) w184 hs hp ha h
theorem s80_51 {S : Nat × (Nat → Int32)} {L : List (Option Value)} {st : List Value} {n : Nat} {Q : xQ} {μ : xM} {x : Int32} (h : Q (.inl (some (.int x))) μ n) : x_V S 80 51 L (.int x :: []) μ n Q := x_ireturn d80_51 rfl rfl h
theorem s80_52 {S : Nat × (Nat → Int32)} {L : List (Option Value)} {st : List Value} {n : Nat} {Q : xQ} {μ : xM} {a : Nat} (hl : L[0]? = some (some (.ref a))) (h : x_V S 80 53 L (.ref a :: st) μ n Q) : x_V S 80 52 L (st) μ n Q := x_aload_n d80_52 hl h
theorem s80_52N {S : Nat × (Nat → Int32)} {L : List (Option Value)} {st : List Value} {n : Nat} {Q : xQ} {μ : xM} (hl : L[0]? = some (some .null)) (h : x_V S 80 53 L (.null :: st) μ n Q) : x_V S 80 52 L st μ n Q := x_aload_nN d80_52 hl h
theorem s80_53 {S : Nat × (Nat → Int32)} {L : List (Option Value)} {st : List Value} {n : Nat} {Q : xQ} {g : Nat → Nat → Int} {a : Nat} {v : Value} (hs : x_sh a = (0, 3)) (hp : x_pt a 2 = some v) (h : x_V S 80 56 L (v :: st) (x_vm g) n Q) : x_V S 80 53 L (.ref a :: st) (x_vm g) n Q := v_getp (i := 2) cf0 d80_53 (by decide) w225 hs hp h
theorem s80_56 {S : Nat × (Nat → Int32)} {L : List (Option Value)} {st : List Value} {n : Nat} {Q : xQ} {g : Nat → Nat → Int} {a : Nat} (hs : x_sh a = (4, 12)) (hp : x_pt a 4 = none) (ha : a ≠ x_out) (h : x_V S 80 59 L (.int (I (g a 4)) :: st) (x_vm g) n Q) : x_V S 80 56 L (.ref a :: st) (x_vm g) n Q := v_get (i := 4) cf4 d80_56 (by decide) w186 hs hp ha h
theorem s80_59 {S : Nat × (Nat → Int32)} {L : List (Option Value)} {st : List Value} {n : Nat} {Q : xQ} {μ : xM} {x : Int32} (h : Q (.inl (some (.int x))) μ n) : x_V S 80 59 L (.int x :: []) μ n Q := x_ireturn d80_59 rfl rfl h
theorem s80_60 {S : Nat × (Nat → Int32)} {L : List (Option Value)} {st : List Value} {n : Nat} {Q : xQ} {μ : xM} {a : Nat} (hl : L[0]? = some (some (.ref a))) (h : x_V S 80 61 L (.ref a :: st) μ n Q) : x_V S 80 60 L (st) μ n Q := x_aload_n d80_60 hl h
theorem s80_60N {S : Nat × (Nat → Int32)} {L : List (Option Value)} {st : List Value} {n : Nat} {Q : xQ} {μ : xM} (hl : L[0]? = some (some .null)) (h : x_V S 80 61 L (.null :: st) μ n Q) : x_V S 80 60 L st μ n Q := x_aload_nN d80_60 hl h
theorem s80_61 {S : Nat × (Nat → Int32)} {L : List (Option Value)} {st : List Value} {n : Nat} {Q : xQ} {g : Nat → Nat → Int} {a : Nat} {v : Value} (hs : x_sh a = (0, 3)) (hp : x_pt a 2 = some v) (h : x_V S 80 64 L (v :: st) (x_vm g) n Q) : x_V S 80 61 L (.ref a :: st) (x_vm g) n Q := v_getp (i := 2) cf0 d80_61 (by decide) w225 hs hp h
theorem s80_64 {S : Nat × (Nat → Int32)} {L : List (Option Value)} {st : List Value} {n : Nat} {Q : xQ} {g : Nat → Nat → Int} {a : Nat} (hs : x_sh a = (4, 12)) (hp : x_pt a 5 = none) (ha : a ≠ x_out) (h : x_V S 80 67 L (.int (I (g a 5)) :: st) (x_vm g) n Q) : x_V S 80 64 L (.ref a :: st) (x_vm g) n Q := v_get (i := 5) cf4 d80_64 (by decide) w188 hs hp ha h
theorem s80_67 {S : Nat × (Nat → Int32)} {L : List (Option Value)} {st : List Value} {n : Nat} {Q : xQ} {μ : xM} {x : Int32} (h : Q (.inl (some (.int x))) μ n) : x_V S 80 67 L (.int x :: []) μ n Q := x_ireturn d80_67 rfl rfl h
theorem s80_68 {S : Nat × (Nat → Int32)} {L : List (Option Value)} {st : List Value} {n : Nat} {Q : xQ} {μ : xM} {a : Nat} (hl : L[0]? = some (some (.ref a))) (h : x_V S 80 69 L (.ref a :: st) μ n Q) : x_V S 80 68 L (st) μ n Q := x_aload_n d80_68 hl h
theorem s80_68N {S : Nat × (Nat → Int32)} {L : List (Option Value)} {st : List Value} {n : Nat} {Q : xQ} {μ : xM} (hl : L[0]? = some (some .null)) (h : x_V S 80 69 L (.null :: st) μ n Q) : x_V S 80 68 L st μ n Q := x_aload_nN d80_68 hl h
theorem s80_69 {S : Nat × (Nat → Int32)} {L : List (Option Value)} {st : List Value} {n : Nat} {Q : xQ} {g : Nat → Nat → Int} {a : Nat} {v : Value} (hs : x_sh a = (0, 3)) (hp : x_pt a 2 = some v) (h : x_V S 80 72 L (v :: st) (x_vm g) n Q) : x_V S 80 69 L (.ref a :: st) (x_vm g) n Q := v_getp (i := 2) cf0 d80_69 (by decide) w225 hs hp h
theorem s80_72 {S : Nat × (Nat → Int32)} {L : List (Option Value)} {st : List Value} {n : Nat} {Q : xQ} {g : Nat → Nat → Int} {a : Nat} (hs : x_sh a = (4, 12)) (hp : x_pt a 6 = none) (ha : a ≠ x_out) (h : x_V S 80 75 L (.int (I (g a 6)) :: st) (x_vm g) n Q) : x_V S 80 72 L (.ref a :: st) (x_vm g) n Q := v_get (i := 6) cf4 d80_72 (by decide) w190 hs hp ha h
theorem s80_75 {S : Nat × (Nat → Int32)} {L : List (Option Value)} {st : List Value} {n : Nat} {Q : xQ} {μ : xM} {x : Int} (hx : ib x) (kt : x = 0 → x_V S 80 82 L (st) μ n Q) (kf : x ≠ 0 → x_V S 80 78 L (st) μ n Q) : x_V S 80 75 L (.int (I x) :: st) μ n Q := v_if_eq d80_75 (by decide) hx kt kf
theorem s80_78 {S : Nat × (Nat → Int32)} {L : List (Option Value)} {st : List Value} {n : Nat} {Q : xQ} {μ : xM}  (h : x_V S 80 79 L (.int (I 1) :: st) μ n Q) : x_V S 80 78 L (st) μ n Q := x_iconst (by decide +kernel) d80_78 h
theorem s80_79 {S : Nat × (Nat → Int32)} {L : List (Option Value)} {st : List Value} {n : Nat} {Q : xQ} {μ : xM}  (h : x_V S 80 83 L (st) μ n Q) : x_V S 80 79 L (st) μ n Q := x_goto (tgt := 83) (by decide) d80_79 h
theorem s80_82 {S : Nat × (Nat → Int32)} {L : List (Option Value)} {st : List Value} {n : Nat} {Q : xQ} {μ : xM}  (h : x_V S 80 83 L (.int (I 0) :: st) μ n Q) : x_V S 80 82 L (st) μ n Q := x_iconst (by decide +kernel) d80_82 h
theorem s80_83 {S : Nat × (Nat → Int32)} {L : List (Option Value)} {st : List Value} {n : Nat} {Q : xQ} {μ : xM} {x : Int32} (h : Q (.inl (some (.int x))) μ n) : x_V S 80 83 L (.int x :: []) μ n Q := x_ireturn d80_83 rfl rfl h
theorem s80_84 {S : Nat × (Nat → Int32)} {L : List (Option Value)} {st : List Value} {n : Nat} {Q : xQ} {μ : xM} {a : Nat} (hl : L[0]? = some (some (.ref a))) (h : x_V S 80 85 L (.ref a :: st) μ n Q) : x_V S 80 84 L (st) μ n Q := x_aload_n d80_84 hl h
theorem s80_84N {S : Nat × (Nat → Int32)} {L : List (Option Value)} {st : List Value} {n : Nat} {Q : xQ} {μ : xM} (hl : L[0]? = some (some .null)) (h : x_V S 80 85 L (.null :: st) μ n Q) : x_V S 80 84 L st μ n Q := x_aload_nN d80_84 hl h
theorem s80_85 {S : Nat × (Nat → Int32)} {L : List (Option Value)} {st : List Value} {n : Nat} {Q : xQ} {g : Nat → Nat → Int} {a : Nat} {v : Value} (hs : x_sh a = (0, 3)) (hp : x_pt a 2 = some v) (h : x_V S 80 88 L (v :: st) (x_vm g) n Q) : x_V S 80 85 L (.ref a :: st) (x_vm g) n Q := v_getp (i := 2) cf0 d80_85 (by decide) w225 hs hp h
theorem s80_88 {S : Nat × (Nat → Int32)} {L : List (Option Value)} {st : List Value} {n : Nat} {Q : xQ} {g : Nat → Nat → Int} {a : Nat} (hs : x_sh a = (4, 12)) (hp : x_pt a 7 = none) (ha : a ≠ x_out) (h : x_V S 80 91 L (.int (I (g a 7)) :: st) (x_vm g) n Q) : x_V S 80 88 L (.ref a :: st) (x_vm g) n Q := v_get (i := 7) cf4 d80_88 (by decide) w192 hs hp ha h
theorem s80_91 {S : Nat × (Nat → Int32)} {L : List (Option Value)} {st : List Value} {n : Nat} {Q : xQ} {μ : xM} {x : Int32} (h : Q (.inl (some (.int x))) μ n) : x_V S 80 91 L (.int x :: []) μ n Q := x_ireturn d80_91 rfl rfl h
theorem s80_92 {S : Nat × (Nat → Int32)} {L : List (Option Value)} {st : List Value} {n : Nat} {Q : xQ} {μ : xM} {a : Nat} (hl : L[0]? = some (some (.ref a))) (h : x_V S 80 93 L (.ref a :: st) μ n Q) : x_V S 80 92 L (st) μ n Q := x_aload_n d80_92 hl h
theorem s80_92N {S : Nat × (Nat → Int32)} {L : List (Option Value)} {st : List Value} {n : Nat} {Q : xQ} {μ : xM} (hl : L[0]? = some (some .null)) (h : x_V S 80 93 L (.null :: st) μ n Q) : x_V S 80 92 L st μ n Q := x_aload_nN d80_92 hl h
theorem s80_93 {S : Nat × (Nat → Int32)} {L : List (Option Value)} {st : List Value} {n : Nat} {Q : xQ} {g : Nat → Nat → Int} {a : Nat} {v : Value} (hs : x_sh a = (0, 3)) (hp : x_pt a 2 = some v) (h : x_V S 80 96 L (v :: st) (x_vm g) n Q) : x_V S 80 93 L (.ref a :: st) (x_vm g) n Q := v_getp (i := 2) cf0 d80_93 (by decide) w225 hs hp h
theorem s80_96 {S : Nat × (Nat → Int32)} {L : List (Option Value)} {st : List Value} {n : Nat} {Q : xQ} {g : Nat → Nat → Int} {a : Nat} {v : Value} (hs : x_sh a = (4, 12)) (hp : x_pt a 1 = some v) (h : x_V S 80 99 L (v :: st) (x_vm g) n Q) : x_V S 80 96 L (.ref a :: st) (x_vm g) n Q := v_getp (i := 1) cf4 d80_96 (by decide) w181 hs hp h
theorem s80_99 {S : Nat × (Nat → Int32)} {L : List (Option Value)} {st : List Value} {n : Nat} {Q : xQ} {g : Nat → Nat → Int} {a : Nat} (hs : x_sh a = (6, 4)) (hp : x_pt a 1 = none) (ha : a ≠ x_out) (h : x_V S 80 102 L (.int (I (g a 1)) :: st) (x_vm g) n Q) : x_V S 80 99 L (.ref a :: st) (x_vm g) n Q := v_get (i := 1) cf6 d80_99 (by decide) w152 hs hp ha h
theorem s80_102 {S : Nat × (Nat → Int32)} {L : List (Option Value)} {st : List Value} {n : Nat} {Q : xQ} {μ : xM} {x : Int32} (h : Q (.inl (some (.int x))) μ n) : x_V S 80 102 L (.int x :: []) μ n Q := x_ireturn d80_102 rfl rfl h
theorem s80_103 {S : Nat × (Nat → Int32)} {L : List (Option Value)} {st : List Value} {n : Nat} {Q : xQ} {μ : xM} {a : Nat} (hl : L[0]? = some (some (.ref a))) (h : x_V S 80 104 L (.ref a :: st) μ n Q) : x_V S 80 103 L (st) μ n Q := x_aload_n d80_103 hl h
theorem s80_103N {S : Nat × (Nat → Int32)} {L : List (Option Value)} {st : List Value} {n : Nat} {Q : xQ} {μ : xM} (hl : L[0]? = some (some .null)) (h : x_V S 80 104 L (.null :: st) μ n Q) : x_V S 80 103 L st μ n Q := x_aload_nN d80_103 hl h
theorem s80_104 {S : Nat × (Nat → Int32)} {L : List (Option Value)} {st : List Value} {n : Nat} {Q : xQ} {g : Nat → Nat → Int} {a : Nat} {v : Value} (hs : x_sh a = (0, 3)) (hp : x_pt a 2 = some v) (h : x_V S 80 107 L (v :: st) (x_vm g) n Q) : x_V S 80 104 L (.ref a :: st) (x_vm g) n Q := v_getp (i := 2) cf0 d80_104 (by decide) w225 hs hp h
theorem s80_107 {S : Nat × (Nat → Int32)} {L : List (Option Value)} {st : List Value} {n : Nat} {Q : xQ} {g : Nat → Nat → Int} {a : Nat} (hs : x_sh a = (4, 12)) (hp : x_pt a 8 = none) (ha : a ≠ x_out) (h : x_V S 80 110 L (.int (I (g a 8)) :: st) (x_vm g) n Q) : x_V S 80 107 L (.ref a :: st) (x_vm g) n Q := v_get (i := 8) cf4 d80_107 (by decide) w194 hs hp ha h
theorem s80_110 {S : Nat × (Nat → Int32)} {L : List (Option Value)} {st : List Value} {n : Nat} {Q : xQ} {μ : xM} {x : Int32} (h : Q (.inl (some (.int x))) μ n) : x_V S 80 110 L (.int x :: []) μ n Q := x_ireturn d80_110 rfl rfl h
theorem s80_111 {S : Nat × (Nat → Int32)} {L : List (Option Value)} {st : List Value} {n : Nat} {Q : xQ} {μ : xM}  (hsh : x_sh n = (99, 6)) (hn : n < x_NM) (hst : st.length ≤ 4) (h : Q (.inr 2) μ (n + 1)) : x_V S 80 111 L (st) μ n Q := x_throw (x := 2) (names := ["java/lang/RuntimeException", "java/lang/Exception"]) d80_111 d80_114 d80_115 d80_118 w436 w437 w16 (by decide +kernel) (by decide +kernel) ta_2 rfl hsh hn (by decide) (by decide) hst h
theorem mC_81 : mC 81 = prog_1_method_13_code := rfl
theorem d81_0 : decode (mC 81) 0 = .ok (.aload_n 0, 1) := by rw [mC_81]; decide +kernel
theorem d81_1 : decode (mC 81) 1 = .ok (.getfield 26, 3) := by rw [mC_81]; decide +kernel
theorem d81_4 : decode (mC 81) 4 = .ok (.getfield 120, 3) := by rw [mC_81]; decide +kernel
theorem d81_7 : decode (mC 81) 7 = .ok (.iload_n 1, 1) := by rw [mC_81]; decide +kernel
theorem d81_8 : decode (mC 81) 8 = .ok (.invokevirtual 169, 3) := by rw [mC_81]; decide +kernel
theorem d81_11 : decode (mC 81) 11 = .ok (.astore_n 3, 1) := by rw [mC_81]; decide +kernel
theorem d81_12 : decode (mC 81) 12 = .ok (.aload_n 3, 1) := by rw [mC_81]; decide +kernel
theorem d81_13 : decode (mC 81) 13 = .ok (.ifnonnull 11, 3) := by rw [mC_81]; decide +kernel
theorem d81_16 : decode (mC 81) 16 = .ok (.new 130, 3) := by rw [mC_81]; decide +kernel
theorem d81_19 : decode (mC 81) 19 = .ok (.dup, 1) := by rw [mC_81]; decide +kernel
theorem d81_20 : decode (mC 81) 20 = .ok (.invokespecial 132, 3) := by rw [mC_81]; decide +kernel
theorem d81_23 : decode (mC 81) 23 = .ok (.athrow, 1) := by rw [mC_81]; decide +kernel
theorem d81_24 : decode (mC 81) 24 = .ok (.iload_n 2, 1) := by rw [mC_81]; decide +kernel
theorem d81_25 : decode (mC 81) 25 = .ok (.tableswitch 51 0 3 #[31, 36, 41, 46], 31) := by rw [mC_81]; decide +kernel
theorem d81_56 : decode (mC 81) 56 = .ok (.aload_n 3, 1) := by rw [mC_81]; decide +kernel
theorem d81_57 : decode (mC 81) 57 = .ok (.getfield 172, 3) := by rw [mC_81]; decide +kernel
theorem d81_60 : decode (mC 81) 60 = .ok (.ireturn, 1) := by rw [mC_81]; decide +kernel
theorem d81_61 : decode (mC 81) 61 = .ok (.aload_n 3, 1) := by rw [mC_81]; decide +kernel
theorem d81_62 : decode (mC 81) 62 = .ok (.getfield 175, 3) := by rw [mC_81]; decide +kernel
theorem d81_65 : decode (mC 81) 65 = .ok (.ireturn, 1) := by rw [mC_81]; decide +kernel
theorem d81_66 : decode (mC 81) 66 = .ok (.aload_n 3, 1) := by rw [mC_81]; decide +kernel
theorem d81_67 : decode (mC 81) 67 = .ok (.getfield 139, 3) := by rw [mC_81]; decide +kernel
theorem d81_70 : decode (mC 81) 70 = .ok (.ireturn, 1) := by rw [mC_81]; decide +kernel
theorem d81_71 : decode (mC 81) 71 = .ok (.aload_n 3, 1) := by rw [mC_81]; decide +kernel
theorem d81_72 : decode (mC 81) 72 = .ok (.invokevirtual 178, 3) := by rw [mC_81]; decide +kernel
theorem d81_75 : decode (mC 81) 75 = .ok (.ireturn, 1) := by rw [mC_81]; decide +kernel
theorem d81_76 : decode (mC 81) 76 = .ok (.new 76, 3) := by rw [mC_81]; decide +kernel
theorem d81_79 : decode (mC 81) 79 = .ok (.dup, 1) := by rw [mC_81]; decide +kernel
theorem d81_80 : decode (mC 81) 80 = .ok (.invokespecial 78, 3) := by rw [mC_81]; decide +kernel
theorem d81_83 : decode (mC 81) 83 = .ok (.athrow, 1) := by rw [mC_81]; decide +kernel
theorem s81_0 {S : Nat × (Nat → Int32)} {L : List (Option Value)} {st : List Value} {n : Nat} {Q : xQ} {μ : xM} {a : Nat} (hl : L[0]? = some (some (.ref a))) (h : x_V S 81 1 L (.ref a :: st) μ n Q) : x_V S 81 0 L (st) μ n Q := x_aload_n d81_0 hl h
theorem s81_0N {S : Nat × (Nat → Int32)} {L : List (Option Value)} {st : List Value} {n : Nat} {Q : xQ} {μ : xM} (hl : L[0]? = some (some .null)) (h : x_V S 81 1 L (.null :: st) μ n Q) : x_V S 81 0 L st μ n Q := x_aload_nN d81_0 hl h
theorem s81_1 {S : Nat × (Nat → Int32)} {L : List (Option Value)} {st : List Value} {n : Nat} {Q : xQ} {g : Nat → Nat → Int} {a : Nat} {v : Value} (hs : x_sh a = (0, 3)) (hp : x_pt a 2 = some v) (h : x_V S 81 4 L (v :: st) (x_vm g) n Q) : x_V S 81 1 L (.ref a :: st) (x_vm g) n Q := v_getp (i := 2) cf0 d81_1 (by decide) w225 hs hp h
theorem s81_4 {S : Nat × (Nat → Int32)} {L : List (Option Value)} {st : List Value} {n : Nat} {Q : xQ} {g : Nat → Nat → Int} {a : Nat} {v : Value} (hs : x_sh a = (4, 12)) (hp : x_pt a 1 = some v) (h : x_V S 81 7 L (v :: st) (x_vm g) n Q) : x_V S 81 4 L (.ref a :: st) (x_vm g) n Q := v_getp (i := 1) cf4 d81_4 (by decide) w181 hs hp h
theorem s81_7 {S : Nat × (Nat → Int32)} {L : List (Option Value)} {st : List Value} {n : Nat} {Q : xQ} {μ : xM} {x : Int32} (hl : L[1]? = some (some (.int x))) (h : x_V S 81 8 L (.int x :: st) μ n Q) : x_V S 81 7 L (st) μ n Q := x_iload_n d81_7 hl h
theorem s81_8 {S : Nat × (Nat → Int32)} {L : List (Option Value)} {st : List Value} {n : Nat} {Q : xQ} {μ : xM} {x0 : Int32} {a : Nat} (hs : x_sh a = (6, 4)) (hst : st.length ≤ 4) (h : x_V S 47 0 [some (.ref a), some (.int x0), none] [] μ n (x_bk S 81 8 L st Q)) : x_V S 81 8 L (.int x0 :: .ref a :: st) μ n Q := x_callV (k' := 47) (as := [.int x0]) (na := 1) d81_8 ⟨w598, by decide +kernel, by decide, by decide, by decide, by decide, by decide⟩ cf6 w687 w596 w597 (by decide +kernel) rfl hs (fun v hv => by
    simp only [List.mem_cons, List.not_mem_nil, or_false] at hv
    rcases hv with rfl <;> first | rfl | assumption) hst h
theorem s81_11 {S : Nat × (Nat → Int32)} {L : List (Option Value)} {st : List Value} {n : Nat} {Q : xQ} {μ : xM} {a : Nat} (h : x_V S 81 12 (L.set 3 (some (.ref a))) (st) μ n Q) : x_V S 81 11 L (.ref a :: st) μ n Q := x_astore_n d81_11 (by decide) h
theorem s81_11N {S : Nat × (Nat → Int32)} {L : List (Option Value)} {st : List Value} {n : Nat} {Q : xQ} {μ : xM} (h : x_V S 81 12 (L.set 3 (some .null)) (st) μ n Q) : x_V S 81 11 L (.null :: st) μ n Q := x_astore_nN d81_11 (by decide) h
theorem s81_12 {S : Nat × (Nat → Int32)} {L : List (Option Value)} {st : List Value} {n : Nat} {Q : xQ} {μ : xM} {a : Nat} (hl : L[3]? = some (some (.ref a))) (h : x_V S 81 13 L (.ref a :: st) μ n Q) : x_V S 81 12 L (st) μ n Q := x_aload_n d81_12 hl h
theorem s81_12N {S : Nat × (Nat → Int32)} {L : List (Option Value)} {st : List Value} {n : Nat} {Q : xQ} {μ : xM} (hl : L[3]? = some (some .null)) (h : x_V S 81 13 L (.null :: st) μ n Q) : x_V S 81 12 L st μ n Q := x_aload_nN d81_12 hl h
theorem s81_13 {S : Nat × (Nat → Int32)} {L : List (Option Value)} {st : List Value} {n : Nat} {Q : xQ} {μ : xM} {a : Nat} (h : x_V S 81 24 L (st) μ n Q) : x_V S 81 13 L (.ref a :: st) μ n Q := x_ifnonnull_y (tgt := 24) (by decide) d81_13 h
theorem s81_13N {S : Nat × (Nat → Int32)} {L : List (Option Value)} {st : List Value} {n : Nat} {Q : xQ} {μ : xM} (h : x_V S 81 16 L (st) μ n Q) : x_V S 81 13 L (.null :: st) μ n Q := x_ifnonnull_n d81_13 h
theorem s81_16 {S : Nat × (Nat → Int32)} {L : List (Option Value)} {st : List Value} {n : Nat} {Q : xQ} {μ : xM}  (hsh : x_sh n = (99, 6)) (hn : n < x_NM) (hst : st.length ≤ 4) (h : Q (.inr 3) μ (n + 1)) : x_V S 81 16 L (st) μ n Q := x_throw (x := 3) (names := ["java/lang/RuntimeException", "java/lang/Exception"]) d81_16 d81_19 d81_20 d81_23 w632 w633 w19 (by decide +kernel) (by decide +kernel) ta_3 rfl hsh hn (by decide) (by decide) hst h
theorem s81_24 {S : Nat × (Nat → Int32)} {L : List (Option Value)} {st : List Value} {n : Nat} {Q : xQ} {μ : xM} {x : Int32} (hl : L[2]? = some (some (.int x))) (h : x_V S 81 25 L (.int x :: st) μ n Q) : x_V S 81 24 L (st) μ n Q := x_iload_n d81_24 hl h
theorem s81_56 {S : Nat × (Nat → Int32)} {L : List (Option Value)} {st : List Value} {n : Nat} {Q : xQ} {μ : xM} {a : Nat} (hl : L[3]? = some (some (.ref a))) (h : x_V S 81 57 L (.ref a :: st) μ n Q) : x_V S 81 56 L (st) μ n Q := x_aload_n d81_56 hl h
theorem s81_56N {S : Nat × (Nat → Int32)} {L : List (Option Value)} {st : List Value} {n : Nat} {Q : xQ} {μ : xM} (hl : L[3]? = some (some .null)) (h : x_V S 81 57 L (.null :: st) μ n Q) : x_V S 81 56 L st μ n Q := x_aload_nN d81_56 hl h
theorem s81_57 {S : Nat × (Nat → Int32)} {L : List (Option Value)} {st : List Value} {n : Nat} {Q : xQ} {g : Nat → Nat → Int} {a : Nat} (hs : x_sh a = (7, 5)) (hp : x_pt a 1 = none) (ha : a ≠ x_out) (h : x_V S 81 60 L (.int (I (g a 1)) :: st) (x_vm g) n Q) : x_V S 81 57 L (.ref a :: st) (x_vm g) n Q := v_get (i := 1) cf7 d81_57 (by decide) w129 hs hp ha h
theorem s81_60 {S : Nat × (Nat → Int32)} {L : List (Option Value)} {st : List Value} {n : Nat} {Q : xQ} {μ : xM} {x : Int32} (h : Q (.inl (some (.int x))) μ n) : x_V S 81 60 L (.int x :: []) μ n Q := x_ireturn d81_60 rfl rfl h
theorem s81_61 {S : Nat × (Nat → Int32)} {L : List (Option Value)} {st : List Value} {n : Nat} {Q : xQ} {μ : xM} {a : Nat} (hl : L[3]? = some (some (.ref a))) (h : x_V S 81 62 L (.ref a :: st) μ n Q) : x_V S 81 61 L (st) μ n Q := x_aload_n d81_61 hl h
theorem s81_61N {S : Nat × (Nat → Int32)} {L : List (Option Value)} {st : List Value} {n : Nat} {Q : xQ} {μ : xM} (hl : L[3]? = some (some .null)) (h : x_V S 81 62 L (.null :: st) μ n Q) : x_V S 81 61 L st μ n Q := x_aload_nN d81_61 hl h
theorem s81_62 {S : Nat × (Nat → Int32)} {L : List (Option Value)} {st : List Value} {n : Nat} {Q : xQ} {g : Nat → Nat → Int} {a : Nat} (hs : x_sh a = (7, 5)) (hp : x_pt a 2 = none) (ha : a ≠ x_out) (h : x_V S 81 65 L (.int (I (g a 2)) :: st) (x_vm g) n Q) : x_V S 81 62 L (.ref a :: st) (x_vm g) n Q := v_get (i := 2) cf7 d81_62 (by decide) w132 hs hp ha h
theorem s81_65 {S : Nat × (Nat → Int32)} {L : List (Option Value)} {st : List Value} {n : Nat} {Q : xQ} {μ : xM} {x : Int32} (h : Q (.inl (some (.int x))) μ n) : x_V S 81 65 L (.int x :: []) μ n Q := x_ireturn d81_65 rfl rfl h
theorem s81_66 {S : Nat × (Nat → Int32)} {L : List (Option Value)} {st : List Value} {n : Nat} {Q : xQ} {μ : xM} {a : Nat} (hl : L[3]? = some (some (.ref a))) (h : x_V S 81 67 L (.ref a :: st) μ n Q) : x_V S 81 66 L (st) μ n Q := x_aload_n d81_66 hl h
theorem s81_66N {S : Nat × (Nat → Int32)} {L : List (Option Value)} {st : List Value} {n : Nat} {Q : xQ} {μ : xM} (hl : L[3]? = some (some .null)) (h : x_V S 81 67 L (.null :: st) μ n Q) : x_V S 81 66 L st μ n Q := x_aload_nN d81_66 hl h
theorem s81_67 {S : Nat × (Nat → Int32)} {L : List (Option Value)} {st : List Value} {n : Nat} {Q : xQ} {g : Nat → Nat → Int} {a : Nat} (hs : x_sh a = (7, 5)) (hp : x_pt a 3 = none) (ha : a ≠ x_out) (h : x_V S 81 70 L (.int (I (g a 3)) :: st) (x_vm g) n Q) : x_V S 81 67 L (.ref a :: st) (x_vm g) n Q := v_get (i := 3) cf7 d81_67 (by decide) w136 hs hp ha h
theorem s81_70 {S : Nat × (Nat → Int32)} {L : List (Option Value)} {st : List Value} {n : Nat} {Q : xQ} {μ : xM} {x : Int32} (h : Q (.inl (some (.int x))) μ n) : x_V S 81 70 L (.int x :: []) μ n Q := x_ireturn d81_70 rfl rfl h
theorem s81_71 {S : Nat × (Nat → Int32)} {L : List (Option Value)} {st : List Value} {n : Nat} {Q : xQ} {μ : xM} {a : Nat} (hl : L[3]? = some (some (.ref a))) (h : x_V S 81 72 L (.ref a :: st) μ n Q) : x_V S 81 71 L (st) μ n Q := x_aload_n d81_71 hl h
theorem s81_71N {S : Nat × (Nat → Int32)} {L : List (Option Value)} {st : List Value} {n : Nat} {Q : xQ} {μ : xM} (hl : L[3]? = some (some .null)) (h : x_V S 81 72 L (.null :: st) μ n Q) : x_V S 81 71 L st μ n Q := x_aload_nN d81_71 hl h
theorem s81_72 {S : Nat × (Nat → Int32)} {L : List (Option Value)} {st : List Value} {n : Nat} {Q : xQ} {μ : xM}  {a : Nat} (hs : x_sh a = (7, 5)) (hst : st.length ≤ 4) (h : x_V S 20 0 [some (.ref a)] [] μ n (x_bk S 81 72 L st Q)) : x_V S 81 72 L (.ref a :: st) μ n Q := x_callV (k' := 20) (as := []) (na := 0) d81_72 ⟨w614, by decide +kernel, by decide, by decide, by decide, by decide, by decide⟩ cf7 w688 w612 w613 (by decide +kernel) rfl hs (fun v hv => by
    cases hv) hst h
theorem s81_75 {S : Nat × (Nat → Int32)} {L : List (Option Value)} {st : List Value} {n : Nat} {Q : xQ} {μ : xM} {x : Int32} (h : Q (.inl (some (.int x))) μ n) : x_V S 81 75 L (.int x :: []) μ n Q := x_ireturn d81_75 rfl rfl h
theorem s81_76 {S : Nat × (Nat → Int32)} {L : List (Option Value)} {st : List Value} {n : Nat} {Q : xQ} {μ : xM}  (hsh : x_sh n = (99, 6)) (hn : n < x_NM) (hst : st.length ≤ 4) (h : Q (.inr 2) μ (n + 1)) : x_V S 81 76 L (st) μ n Q := x_throw (x := 2) (names := ["java/lang/RuntimeException", "java/lang/Exception"]) d81_76 d81_79 d81_80 d81_83 w436 w437 w16 (by decide +kernel) (by decide +kernel) ta_2 rfl hsh hn (by decide) (by decide) hst h
theorem mC_82 : mC 82 = prog_1_method_14_code := rfl
theorem d82_0 : decode (mC 82) 0 = .ok (.iload_n 0, 1) := by rw [mC_82]; decide +kernel
theorem d82_1 : decode (mC 82) 1 = .ok (.ifCond .lt 13, 3) := by rw [mC_82]; decide +kernel
theorem d82_4 : decode (mC 82) 4 = .ok (.iload_n 0, 1) := by rw [mC_82]; decide +kernel
theorem d82_5 : decode (mC 82) 5 = .ok (.ldc 181, 2) := by rw [mC_82]; decide +kernel
theorem d82_7 : decode (mC 82) 7 = .ok (.if_icmp .gt 7, 3) := by rw [mC_82]; decide +kernel
theorem d82_10 : decode (mC 82) 10 = .ok (.iconst 1, 1) := by rw [mC_82]; decide +kernel
theorem d82_11 : decode (mC 82) 11 = .ok (.goto 4, 3) := by rw [mC_82]; decide +kernel
theorem d82_14 : decode (mC 82) 14 = .ok (.iconst 0, 1) := by rw [mC_82]; decide +kernel
theorem d82_15 : decode (mC 82) 15 = .ok (.ireturn, 1) := by rw [mC_82]; decide +kernel
theorem s82_0 {S : Nat × (Nat → Int32)} {L : List (Option Value)} {st : List Value} {n : Nat} {Q : xQ} {μ : xM} {x : Int32} (hl : L[0]? = some (some (.int x))) (h : x_V S 82 1 L (.int x :: st) μ n Q) : x_V S 82 0 L (st) μ n Q := x_iload_n d82_0 hl h
theorem s82_1 {S : Nat × (Nat → Int32)} {L : List (Option Value)} {st : List Value} {n : Nat} {Q : xQ} {μ : xM} {x : Int} (hx : ib x) (kt : x < 0 → x_V S 82 14 L (st) μ n Q) (kf : 0 ≤ x → x_V S 82 4 L (st) μ n Q) : x_V S 82 1 L (.int (I x) :: st) μ n Q := v_if_lt d82_1 (by decide) hx kt kf
theorem s82_4 {S : Nat × (Nat → Int32)} {L : List (Option Value)} {st : List Value} {n : Nat} {Q : xQ} {μ : xM} {x : Int32} (hl : L[0]? = some (some (.int x))) (h : x_V S 82 5 L (.int x :: st) μ n Q) : x_V S 82 4 L (st) μ n Q := x_iload_n d82_4 hl h
theorem s82_5 {S : Nat × (Nat → Int32)} {L : List (Option Value)} {st : List Value} {n : Nat} {Q : xQ} {μ : xM}  (h : x_V S 82 7 L (.int (I 999999) :: st) μ n Q) : x_V S 82 5 L (st) μ n Q := x_ldc (v := I 999999) d82_5 (by rw [show I 999999 = (999999 : Int32) from by decide +kernel]; exact w305) h
theorem s82_7 {S : Nat × (Nat → Int32)} {L : List (Option Value)} {st : List Value} {n : Nat} {Q : xQ} {μ : xM} {x y : Int} (hx : ib x) (hy : ib y) (kt : y < x → x_V S 82 14 L (st) μ n Q) (kf : x ≤ y → x_V S 82 10 L (st) μ n Q) : x_V S 82 7 L (.int (I y) :: .int (I x) :: st) μ n Q := v_icmp_gt d82_7 (by decide) hx hy kt kf
theorem s82_10 {S : Nat × (Nat → Int32)} {L : List (Option Value)} {st : List Value} {n : Nat} {Q : xQ} {μ : xM}  (h : x_V S 82 11 L (.int (I 1) :: st) μ n Q) : x_V S 82 10 L (st) μ n Q := x_iconst (by decide +kernel) d82_10 h
theorem s82_11 {S : Nat × (Nat → Int32)} {L : List (Option Value)} {st : List Value} {n : Nat} {Q : xQ} {μ : xM}  (h : x_V S 82 15 L (st) μ n Q) : x_V S 82 11 L (st) μ n Q := x_goto (tgt := 15) (by decide) d82_11 h
theorem s82_14 {S : Nat × (Nat → Int32)} {L : List (Option Value)} {st : List Value} {n : Nat} {Q : xQ} {μ : xM}  (h : x_V S 82 15 L (.int (I 0) :: st) μ n Q) : x_V S 82 14 L (st) μ n Q := x_iconst (by decide +kernel) d82_14 h
theorem s82_15 {S : Nat × (Nat → Int32)} {L : List (Option Value)} {st : List Value} {n : Nat} {Q : xQ} {μ : xM} {v : Int} (hv : v = 0 ∨ v = 1) (h : Q (.inl (some (.int (I v)))) μ n) : x_V S 82 15 L (.int (I v) :: []) μ n Q := v_zreturn d82_15 rfl hv h
