/-! 10.s-leaf: decode rows and step rows of java/lang/Math, TradeLink$Layout, TradeLink$Row, TradeLink$Order; laid by a program. -/
theorem mC_0 : mC 0 = prog_17_method_65_code := rfl
theorem d0_0 : decode (mC 0) 0 = .ok (.iload_n 0, 1) := by rw [mC_0]; decide +kernel
theorem d0_1 : decode (mC 0) 1 = .ok (.iload_n 1, 1) := by rw [mC_0]; decide +kernel
theorem d0_2 : decode (mC 0) 2 = .ok (.if_icmp .lt 7, 3) := by rw [mC_0]; decide +kernel
theorem d0_5 : decode (mC 0) 5 = .ok (.iload_n 0, 1) := by rw [mC_0]; decide +kernel
theorem d0_6 : decode (mC 0) 6 = .ok (.goto 4, 3) := by rw [mC_0]; decide +kernel
theorem d0_9 : decode (mC 0) 9 = .ok (.iload_n 1, 1) := by rw [mC_0]; decide +kernel
theorem d0_10 : decode (mC 0) 10 = .ok (.ireturn, 1) := by rw [mC_0]; decide +kernel
theorem s0_0 {S : Nat × (Nat → Int32)} {L : List (Option Value)} {st : List Value} {n : Nat} {Q : xQ} {μ : xM} {x : Int32} (hl : L[0]? = some (some (.int x))) (h : x_V S 0 1 L (.int x :: st) μ n Q) : x_V S 0 0 L (st) μ n Q := x_iload_n d0_0 hl h
theorem s0_1 {S : Nat × (Nat → Int32)} {L : List (Option Value)} {st : List Value} {n : Nat} {Q : xQ} {μ : xM} {x : Int32} (hl : L[1]? = some (some (.int x))) (h : x_V S 0 2 L (.int x :: st) μ n Q) : x_V S 0 1 L (st) μ n Q := x_iload_n d0_1 hl h
theorem s0_2 {S : Nat × (Nat → Int32)} {L : List (Option Value)} {st : List Value} {n : Nat} {Q : xQ} {μ : xM} {x y : Int} (hx : ib x) (hy : ib y) (kt : x < y → x_V S 0 9 L (st) μ n Q) (kf : y ≤ x → x_V S 0 5 L (st) μ n Q) : x_V S 0 2 L (.int (I y) :: .int (I x) :: st) μ n Q := v_icmp_lt d0_2 (by decide) hx hy kt kf
theorem s0_5 {S : Nat × (Nat → Int32)} {L : List (Option Value)} {st : List Value} {n : Nat} {Q : xQ} {μ : xM} {x : Int32} (hl : L[0]? = some (some (.int x))) (h : x_V S 0 6 L (.int x :: st) μ n Q) : x_V S 0 5 L (st) μ n Q := x_iload_n d0_5 hl h
theorem s0_6 {S : Nat × (Nat → Int32)} {L : List (Option Value)} {st : List Value} {n : Nat} {Q : xQ} {μ : xM}  (h : x_V S 0 10 L (st) μ n Q) : x_V S 0 6 L (st) μ n Q := x_goto (tgt := 10) (by decide) d0_6 h
theorem s0_9 {S : Nat × (Nat → Int32)} {L : List (Option Value)} {st : List Value} {n : Nat} {Q : xQ} {μ : xM} {x : Int32} (hl : L[1]? = some (some (.int x))) (h : x_V S 0 10 L (.int x :: st) μ n Q) : x_V S 0 9 L (st) μ n Q := x_iload_n d0_9 hl h
theorem s0_10 {S : Nat × (Nat → Int32)} {L : List (Option Value)} {st : List Value} {n : Nat} {Q : xQ} {μ : xM} {x : Int32} (h : Q (.inl (some (.int x))) μ n) : x_V S 0 10 L (.int x :: []) μ n Q := x_ireturn d0_10 rfl rfl h
theorem mC_1 : mC 1 = prog_4_method_2_code := rfl
theorem d1_0 : decode (mC 1) 0 = .ok (.iload_n 0, 1) := by rw [mC_1]; decide +kernel
theorem d1_1 : decode (mC 1) 1 = .ok (.bipush 56, 2) := by rw [mC_1]; decide +kernel
theorem d1_3 : decode (mC 1) 3 = .ok (.if_icmp .eq 15, 3) := by rw [mC_1]; decide +kernel
theorem d1_6 : decode (mC 1) 6 = .ok (.iload_n 0, 1) := by rw [mC_1]; decide +kernel
theorem d1_7 : decode (mC 1) 7 = .ok (.invokestatic 11, 3) := by rw [mC_1]; decide +kernel
theorem d1_10 : decode (mC 1) 10 = .ok (.iconst (-1), 1) := by rw [mC_1]; decide +kernel
theorem d1_11 : decode (mC 1) 11 = .ok (.if_icmp .eq 7, 3) := by rw [mC_1]; decide +kernel
theorem d1_14 : decode (mC 1) 14 = .ok (.iconst 1, 1) := by rw [mC_1]; decide +kernel
theorem d1_15 : decode (mC 1) 15 = .ok (.goto 4, 3) := by rw [mC_1]; decide +kernel
theorem d1_18 : decode (mC 1) 18 = .ok (.iconst 0, 1) := by rw [mC_1]; decide +kernel
theorem d1_19 : decode (mC 1) 19 = .ok (.ireturn, 1) := by rw [mC_1]; decide +kernel
theorem s1_0 {S : Nat × (Nat → Int32)} {L : List (Option Value)} {st : List Value} {n : Nat} {Q : xQ} {μ : xM} {x : Int32} (hl : L[0]? = some (some (.int x))) (h : x_V S 1 1 L (.int x :: st) μ n Q) : x_V S 1 0 L (st) μ n Q := x_iload_n d1_0 hl h
theorem s1_1 {S : Nat × (Nat → Int32)} {L : List (Option Value)} {st : List Value} {n : Nat} {Q : xQ} {μ : xM}  (h : x_V S 1 3 L (.int (I 56) :: st) μ n Q) : x_V S 1 1 L (st) μ n Q := x_bipush (by decide +kernel) d1_1 h
theorem s1_3 {S : Nat × (Nat → Int32)} {L : List (Option Value)} {st : List Value} {n : Nat} {Q : xQ} {μ : xM} {x y : Int} (hx : ib x) (hy : ib y) (kt : x = y → x_V S 1 18 L (st) μ n Q) (kf : x ≠ y → x_V S 1 6 L (st) μ n Q) : x_V S 1 3 L (.int (I y) :: .int (I x) :: st) μ n Q := v_icmp_eq d1_3 (by decide) hx hy kt kf
theorem s1_6 {S : Nat × (Nat → Int32)} {L : List (Option Value)} {st : List Value} {n : Nat} {Q : xQ} {μ : xM} {x : Int32} (hl : L[0]? = some (some (.int x))) (h : x_V S 1 7 L (.int x :: st) μ n Q) : x_V S 1 6 L (st) μ n Q := x_iload_n d1_6 hl h
theorem s1_7 {S : Nat × (Nat → Int32)} {L : List (Option Value)} {st : List Value} {n : Nat} {Q : xQ} {μ : xM} {x0 : Int32} (hst : st.length ≤ 4) (h : x_V S 4 0 [some (.int x0), none] [] μ n (x_bk S 1 7 L st Q)) : x_V S 1 7 L (.int x0 :: st) μ n Q := x_callS (k' := 4) (as := [.int x0]) (na := 1) d1_7 ⟨w299, by decide +kernel, by decide, by decide, by decide, by decide, by decide⟩ w297 w298 w11 (by decide +kernel) rfl (fun v hv => by
    simp only [List.mem_cons, List.not_mem_nil, or_false] at hv
    rcases hv with rfl <;> first | rfl | assumption) hst h
theorem s1_10 {S : Nat × (Nat → Int32)} {L : List (Option Value)} {st : List Value} {n : Nat} {Q : xQ} {μ : xM}  (h : x_V S 1 11 L (.int (I (-1)) :: st) μ n Q) : x_V S 1 10 L (st) μ n Q := x_iconst (by decide +kernel) d1_10 h
theorem s1_11 {S : Nat × (Nat → Int32)} {L : List (Option Value)} {st : List Value} {n : Nat} {Q : xQ} {μ : xM} {x y : Int} (hx : ib x) (hy : ib y) (kt : x = y → x_V S 1 18 L (st) μ n Q) (kf : x ≠ y → x_V S 1 14 L (st) μ n Q) : x_V S 1 11 L (.int (I y) :: .int (I x) :: st) μ n Q := v_icmp_eq d1_11 (by decide) hx hy kt kf
theorem s1_14 {S : Nat × (Nat → Int32)} {L : List (Option Value)} {st : List Value} {n : Nat} {Q : xQ} {μ : xM}  (h : x_V S 1 15 L (.int (I 1) :: st) μ n Q) : x_V S 1 14 L (st) μ n Q := x_iconst (by decide +kernel) d1_14 h
theorem s1_15 {S : Nat × (Nat → Int32)} {L : List (Option Value)} {st : List Value} {n : Nat} {Q : xQ} {μ : xM}  (h : x_V S 1 19 L (st) μ n Q) : x_V S 1 15 L (st) μ n Q := x_goto (tgt := 19) (by decide) d1_15 h
theorem s1_18 {S : Nat × (Nat → Int32)} {L : List (Option Value)} {st : List Value} {n : Nat} {Q : xQ} {μ : xM}  (h : x_V S 1 19 L (.int (I 0) :: st) μ n Q) : x_V S 1 18 L (st) μ n Q := x_iconst (by decide +kernel) d1_18 h
theorem s1_19 {S : Nat × (Nat → Int32)} {L : List (Option Value)} {st : List Value} {n : Nat} {Q : xQ} {μ : xM} {v : Int} (hv : v = 0 ∨ v = 1) (h : Q (.inl (some (.int (I v)))) μ n) : x_V S 1 19 L (.int (I v) :: []) μ n Q := v_zreturn d1_19 rfl hv h
theorem mC_2 : mC 2 = prog_4_method_3_code := rfl
theorem d2_0 : decode (mC 2) 0 = .ok (.iload_n 0, 1) := by rw [mC_2]; decide +kernel
theorem d2_1 : decode (mC 2) 1 = .ok (.invokestatic 11, 3) := by rw [mC_2]; decide +kernel
theorem d2_4 : decode (mC 2) 4 = .ok (.istore_n 1, 1) := by rw [mC_2]; decide +kernel
theorem d2_5 : decode (mC 2) 5 = .ok (.iload_n 1, 1) := by rw [mC_2]; decide +kernel
theorem d2_6 : decode (mC 2) 6 = .ok (.iconst (-1), 1) := by rw [mC_2]; decide +kernel
theorem d2_7 : decode (mC 2) 7 = .ok (.if_icmp .ne 7, 3) := by rw [mC_2]; decide +kernel
theorem d2_10 : decode (mC 2) 10 = .ok (.iconst 0, 1) := by rw [mC_2]; decide +kernel
theorem d2_11 : decode (mC 2) 11 = .ok (.goto 10, 3) := by rw [mC_2]; decide +kernel
theorem d2_14 : decode (mC 2) 14 = .ok (.getstatic 15, 3) := by rw [mC_2]; decide +kernel
theorem d2_17 : decode (mC 2) 17 = .ok (.iload_n 1, 1) := by rw [mC_2]; decide +kernel
theorem d2_18 : decode (mC 2) 18 = .ok (.iconst 1, 1) := by rw [mC_2]; decide +kernel
theorem d2_19 : decode (mC 2) 19 = .ok (.iadd, 1) := by rw [mC_2]; decide +kernel
theorem d2_20 : decode (mC 2) 20 = .ok (.iaload, 1) := by rw [mC_2]; decide +kernel
theorem d2_21 : decode (mC 2) 21 = .ok (.ireturn, 1) := by rw [mC_2]; decide +kernel
theorem s2_0 {S : Nat × (Nat → Int32)} {L : List (Option Value)} {st : List Value} {n : Nat} {Q : xQ} {μ : xM} {x : Int32} (hl : L[0]? = some (some (.int x))) (h : x_V S 2 1 L (.int x :: st) μ n Q) : x_V S 2 0 L (st) μ n Q := x_iload_n d2_0 hl h
theorem s2_1 {S : Nat × (Nat → Int32)} {L : List (Option Value)} {st : List Value} {n : Nat} {Q : xQ} {μ : xM} {x0 : Int32} (hst : st.length ≤ 4) (h : x_V S 4 0 [some (.int x0), none] [] μ n (x_bk S 2 1 L st Q)) : x_V S 2 1 L (.int x0 :: st) μ n Q := x_callS (k' := 4) (as := [.int x0]) (na := 1) d2_1 ⟨w299, by decide +kernel, by decide, by decide, by decide, by decide, by decide⟩ w297 w298 w11 (by decide +kernel) rfl (fun v hv => by
    simp only [List.mem_cons, List.not_mem_nil, or_false] at hv
    rcases hv with rfl <;> first | rfl | assumption) hst h
theorem s2_4 {S : Nat × (Nat → Int32)} {L : List (Option Value)} {st : List Value} {n : Nat} {Q : xQ} {μ : xM} {x : Int32} (h : x_V S 2 5 (L.set 1 (some (.int x))) (st) μ n Q) : x_V S 2 4 L (.int x :: st) μ n Q := x_istore_n d2_4 (by decide) h
theorem s2_5 {S : Nat × (Nat → Int32)} {L : List (Option Value)} {st : List Value} {n : Nat} {Q : xQ} {μ : xM} {x : Int32} (hl : L[1]? = some (some (.int x))) (h : x_V S 2 6 L (.int x :: st) μ n Q) : x_V S 2 5 L (st) μ n Q := x_iload_n d2_5 hl h
theorem s2_6 {S : Nat × (Nat → Int32)} {L : List (Option Value)} {st : List Value} {n : Nat} {Q : xQ} {μ : xM}  (h : x_V S 2 7 L (.int (I (-1)) :: st) μ n Q) : x_V S 2 6 L (st) μ n Q := x_iconst (by decide +kernel) d2_6 h
theorem s2_7 {S : Nat × (Nat → Int32)} {L : List (Option Value)} {st : List Value} {n : Nat} {Q : xQ} {μ : xM} {x y : Int} (hx : ib x) (hy : ib y) (kt : x ≠ y → x_V S 2 14 L (st) μ n Q) (kf : x = y → x_V S 2 10 L (st) μ n Q) : x_V S 2 7 L (.int (I y) :: .int (I x) :: st) μ n Q := v_icmp_ne d2_7 (by decide) hx hy kt kf
theorem s2_10 {S : Nat × (Nat → Int32)} {L : List (Option Value)} {st : List Value} {n : Nat} {Q : xQ} {μ : xM}  (h : x_V S 2 11 L (.int (I 0) :: st) μ n Q) : x_V S 2 10 L (st) μ n Q := x_iconst (by decide +kernel) d2_10 h
theorem s2_11 {S : Nat × (Nat → Int32)} {L : List (Option Value)} {st : List Value} {n : Nat} {Q : xQ} {μ : xM}  (h : x_V S 2 21 L (st) μ n Q) : x_V S 2 11 L (st) μ n Q := x_goto (tgt := 21) (by decide) d2_11 h
theorem s2_14 {S : Nat × (Nat → Int32)} {L : List (Option Value)} {st : List Value} {n : Nat} {Q : xQ} {μ : xM}  (h : x_V S 2 17 L (.ref 0 :: st) μ n Q) : x_V S 2 14 L (st) μ n Q := x_gets d2_14 w300 h
theorem s2_17 {S : Nat × (Nat → Int32)} {L : List (Option Value)} {st : List Value} {n : Nat} {Q : xQ} {μ : xM} {x : Int32} (hl : L[1]? = some (some (.int x))) (h : x_V S 2 18 L (.int x :: st) μ n Q) : x_V S 2 17 L (st) μ n Q := x_iload_n d2_17 hl h
theorem s2_18 {S : Nat × (Nat → Int32)} {L : List (Option Value)} {st : List Value} {n : Nat} {Q : xQ} {μ : xM}  (h : x_V S 2 19 L (.int (I 1) :: st) μ n Q) : x_V S 2 18 L (st) μ n Q := x_iconst (by decide +kernel) d2_18 h
theorem s2_19 {S : Nat × (Nat → Int32)} {L : List (Option Value)} {st : List Value} {n : Nat} {Q : xQ} {μ : xM} {x y : Int} (h : x_V S 2 20 L (.int (I (x + y)) :: st) μ n Q) : x_V S 2 19 L (.int (I y) :: .int (I x) :: st) μ n Q := v_iadd d2_19 h
theorem s2_21 {S : Nat × (Nat → Int32)} {L : List (Option Value)} {st : List Value} {n : Nat} {Q : xQ} {μ : xM} {x : Int32} (h : Q (.inl (some (.int x))) μ n) : x_V S 2 21 L (.int x :: []) μ n Q := x_ireturn d2_21 rfl rfl h
theorem mC_3 : mC 3 = prog_4_method_4_code := rfl
theorem d3_0 : decode (mC 3) 0 = .ok (.iload_n 0, 1) := by rw [mC_3]; decide +kernel
theorem d3_1 : decode (mC 3) 1 = .ok (.invokestatic 11, 3) := by rw [mC_3]; decide +kernel
theorem d3_4 : decode (mC 3) 4 = .ok (.istore_n 2, 1) := by rw [mC_3]; decide +kernel
theorem d3_5 : decode (mC 3) 5 = .ok (.iload_n 2, 1) := by rw [mC_3]; decide +kernel
theorem d3_6 : decode (mC 3) 6 = .ok (.iconst (-1), 1) := by rw [mC_3]; decide +kernel
theorem d3_7 : decode (mC 3) 7 = .ok (.if_icmp .eq 12, 3) := by rw [mC_3]; decide +kernel
theorem d3_10 : decode (mC 3) 10 = .ok (.iload_n 1, 1) := by rw [mC_3]; decide +kernel
theorem d3_11 : decode (mC 3) 11 = .ok (.ifCond .lt 8, 3) := by rw [mC_3]; decide +kernel
theorem d3_14 : decode (mC 3) 14 = .ok (.iload_n 1, 1) := by rw [mC_3]; decide +kernel
theorem d3_15 : decode (mC 3) 15 = .ok (.iconst 4, 1) := by rw [mC_3]; decide +kernel
theorem d3_16 : decode (mC 3) 16 = .ok (.if_icmp .lt 7, 3) := by rw [mC_3]; decide +kernel
theorem d3_19 : decode (mC 3) 19 = .ok (.iconst 0, 1) := by rw [mC_3]; decide +kernel
theorem d3_20 : decode (mC 3) 20 = .ok (.goto 12, 3) := by rw [mC_3]; decide +kernel
theorem d3_23 : decode (mC 3) 23 = .ok (.getstatic 15, 3) := by rw [mC_3]; decide +kernel
theorem d3_26 : decode (mC 3) 26 = .ok (.iload_n 2, 1) := by rw [mC_3]; decide +kernel
theorem d3_27 : decode (mC 3) 27 = .ok (.iconst 2, 1) := by rw [mC_3]; decide +kernel
theorem d3_28 : decode (mC 3) 28 = .ok (.iadd, 1) := by rw [mC_3]; decide +kernel
theorem d3_29 : decode (mC 3) 29 = .ok (.iload_n 1, 1) := by rw [mC_3]; decide +kernel
theorem d3_30 : decode (mC 3) 30 = .ok (.iadd, 1) := by rw [mC_3]; decide +kernel
theorem d3_31 : decode (mC 3) 31 = .ok (.iaload, 1) := by rw [mC_3]; decide +kernel
theorem d3_32 : decode (mC 3) 32 = .ok (.ireturn, 1) := by rw [mC_3]; decide +kernel
theorem s3_0 {S : Nat × (Nat → Int32)} {L : List (Option Value)} {st : List Value} {n : Nat} {Q : xQ} {μ : xM} {x : Int32} (hl : L[0]? = some (some (.int x))) (h : x_V S 3 1 L (.int x :: st) μ n Q) : x_V S 3 0 L (st) μ n Q := x_iload_n d3_0 hl h
theorem s3_1 {S : Nat × (Nat → Int32)} {L : List (Option Value)} {st : List Value} {n : Nat} {Q : xQ} {μ : xM} {x0 : Int32} (hst : st.length ≤ 4) (h : x_V S 4 0 [some (.int x0), none] [] μ n (x_bk S 3 1 L st Q)) : x_V S 3 1 L (.int x0 :: st) μ n Q := x_callS (k' := 4) (as := [.int x0]) (na := 1) d3_1 ⟨w299, by decide +kernel, by decide, by decide, by decide, by decide, by decide⟩ w297 w298 w11 (by decide +kernel) rfl (fun v hv => by
    simp only [List.mem_cons, List.not_mem_nil, or_false] at hv
    rcases hv with rfl <;> first | rfl | assumption) hst h
theorem s3_4 {S : Nat × (Nat → Int32)} {L : List (Option Value)} {st : List Value} {n : Nat} {Q : xQ} {μ : xM} {x : Int32} (h : x_V S 3 5 (L.set 2 (some (.int x))) (st) μ n Q) : x_V S 3 4 L (.int x :: st) μ n Q := x_istore_n d3_4 (by decide) h
theorem s3_5 {S : Nat × (Nat → Int32)} {L : List (Option Value)} {st : List Value} {n : Nat} {Q : xQ} {μ : xM} {x : Int32} (hl : L[2]? = some (some (.int x))) (h : x_V S 3 6 L (.int x :: st) μ n Q) : x_V S 3 5 L (st) μ n Q := x_iload_n d3_5 hl h
theorem s3_6 {S : Nat × (Nat → Int32)} {L : List (Option Value)} {st : List Value} {n : Nat} {Q : xQ} {μ : xM}  (h : x_V S 3 7 L (.int (I (-1)) :: st) μ n Q) : x_V S 3 6 L (st) μ n Q := x_iconst (by decide +kernel) d3_6 h
theorem s3_7 {S : Nat × (Nat → Int32)} {L : List (Option Value)} {st : List Value} {n : Nat} {Q : xQ} {μ : xM} {x y : Int} (hx : ib x) (hy : ib y) (kt : x = y → x_V S 3 19 L (st) μ n Q) (kf : x ≠ y → x_V S 3 10 L (st) μ n Q) : x_V S 3 7 L (.int (I y) :: .int (I x) :: st) μ n Q := v_icmp_eq d3_7 (by decide) hx hy kt kf
theorem s3_10 {S : Nat × (Nat → Int32)} {L : List (Option Value)} {st : List Value} {n : Nat} {Q : xQ} {μ : xM} {x : Int32} (hl : L[1]? = some (some (.int x))) (h : x_V S 3 11 L (.int x :: st) μ n Q) : x_V S 3 10 L (st) μ n Q := x_iload_n d3_10 hl h
theorem s3_11 {S : Nat × (Nat → Int32)} {L : List (Option Value)} {st : List Value} {n : Nat} {Q : xQ} {μ : xM} {x : Int} (hx : ib x) (kt : x < 0 → x_V S 3 19 L (st) μ n Q) (kf : 0 ≤ x → x_V S 3 14 L (st) μ n Q) : x_V S 3 11 L (.int (I x) :: st) μ n Q := v_if_lt d3_11 (by decide) hx kt kf
theorem s3_14 {S : Nat × (Nat → Int32)} {L : List (Option Value)} {st : List Value} {n : Nat} {Q : xQ} {μ : xM} {x : Int32} (hl : L[1]? = some (some (.int x))) (h : x_V S 3 15 L (.int x :: st) μ n Q) : x_V S 3 14 L (st) μ n Q := x_iload_n d3_14 hl h
theorem s3_15 {S : Nat × (Nat → Int32)} {L : List (Option Value)} {st : List Value} {n : Nat} {Q : xQ} {μ : xM}  (h : x_V S 3 16 L (.int (I 4) :: st) μ n Q) : x_V S 3 15 L (st) μ n Q := x_iconst (by decide +kernel) d3_15 h
theorem s3_16 {S : Nat × (Nat → Int32)} {L : List (Option Value)} {st : List Value} {n : Nat} {Q : xQ} {μ : xM} {x y : Int} (hx : ib x) (hy : ib y) (kt : x < y → x_V S 3 23 L (st) μ n Q) (kf : y ≤ x → x_V S 3 19 L (st) μ n Q) : x_V S 3 16 L (.int (I y) :: .int (I x) :: st) μ n Q := v_icmp_lt d3_16 (by decide) hx hy kt kf
theorem s3_19 {S : Nat × (Nat → Int32)} {L : List (Option Value)} {st : List Value} {n : Nat} {Q : xQ} {μ : xM}  (h : x_V S 3 20 L (.int (I 0) :: st) μ n Q) : x_V S 3 19 L (st) μ n Q := x_iconst (by decide +kernel) d3_19 h
theorem s3_20 {S : Nat × (Nat → Int32)} {L : List (Option Value)} {st : List Value} {n : Nat} {Q : xQ} {μ : xM}  (h : x_V S 3 32 L (st) μ n Q) : x_V S 3 20 L (st) μ n Q := x_goto (tgt := 32) (by decide) d3_20 h
theorem s3_23 {S : Nat × (Nat → Int32)} {L : List (Option Value)} {st : List Value} {n : Nat} {Q : xQ} {μ : xM}  (h : x_V S 3 26 L (.ref 0 :: st) μ n Q) : x_V S 3 23 L (st) μ n Q := x_gets d3_23 w300 h
theorem s3_26 {S : Nat × (Nat → Int32)} {L : List (Option Value)} {st : List Value} {n : Nat} {Q : xQ} {μ : xM} {x : Int32} (hl : L[2]? = some (some (.int x))) (h : x_V S 3 27 L (.int x :: st) μ n Q) : x_V S 3 26 L (st) μ n Q := x_iload_n d3_26 hl h
theorem s3_27 {S : Nat × (Nat → Int32)} {L : List (Option Value)} {st : List Value} {n : Nat} {Q : xQ} {μ : xM}  (h : x_V S 3 28 L (.int (I 2) :: st) μ n Q) : x_V S 3 27 L (st) μ n Q := x_iconst (by decide +kernel) d3_27 h
theorem s3_28 {S : Nat × (Nat → Int32)} {L : List (Option Value)} {st : List Value} {n : Nat} {Q : xQ} {μ : xM} {x y : Int} (h : x_V S 3 29 L (.int (I (x + y)) :: st) μ n Q) : x_V S 3 28 L (.int (I y) :: .int (I x) :: st) μ n Q := v_iadd d3_28 h
theorem s3_29 {S : Nat × (Nat → Int32)} {L : List (Option Value)} {st : List Value} {n : Nat} {Q : xQ} {μ : xM} {x : Int32} (hl : L[1]? = some (some (.int x))) (h : x_V S 3 30 L (.int x :: st) μ n Q) : x_V S 3 29 L (st) μ n Q := x_iload_n d3_29 hl h
theorem s3_30 {S : Nat × (Nat → Int32)} {L : List (Option Value)} {st : List Value} {n : Nat} {Q : xQ} {μ : xM} {x y : Int} (h : x_V S 3 31 L (.int (I (x + y)) :: st) μ n Q) : x_V S 3 30 L (.int (I y) :: .int (I x) :: st) μ n Q := v_iadd d3_30 h
theorem s3_32 {S : Nat × (Nat → Int32)} {L : List (Option Value)} {st : List Value} {n : Nat} {Q : xQ} {μ : xM} {x : Int32} (h : Q (.inl (some (.int x))) μ n) : x_V S 3 32 L (.int x :: []) μ n Q := x_ireturn d3_32 rfl rfl h
theorem mC_4 : mC 4 = prog_4_method_5_code := rfl
theorem d4_0 : decode (mC 4) 0 = .ok (.iconst 0, 1) := by rw [mC_4]; decide +kernel
theorem d4_1 : decode (mC 4) 1 = .ok (.istore_n 1, 1) := by rw [mC_4]; decide +kernel
theorem d4_2 : decode (mC 4) 2 = .ok (.iload_n 1, 1) := by rw [mC_4]; decide +kernel
theorem d4_3 : decode (mC 4) 3 = .ok (.getstatic 15, 3) := by rw [mC_4]; decide +kernel
theorem d4_6 : decode (mC 4) 6 = .ok (.arraylength, 1) := by rw [mC_4]; decide +kernel
theorem d4_7 : decode (mC 4) 7 = .ok (.if_icmp .ge 20, 3) := by rw [mC_4]; decide +kernel
theorem d4_10 : decode (mC 4) 10 = .ok (.getstatic 15, 3) := by rw [mC_4]; decide +kernel
theorem d4_13 : decode (mC 4) 13 = .ok (.iload_n 1, 1) := by rw [mC_4]; decide +kernel
theorem d4_14 : decode (mC 4) 14 = .ok (.iaload, 1) := by rw [mC_4]; decide +kernel
theorem d4_15 : decode (mC 4) 15 = .ok (.iload_n 0, 1) := by rw [mC_4]; decide +kernel
theorem d4_16 : decode (mC 4) 16 = .ok (.if_icmp .ne 5, 3) := by rw [mC_4]; decide +kernel
theorem d4_19 : decode (mC 4) 19 = .ok (.iload_n 1, 1) := by rw [mC_4]; decide +kernel
theorem d4_20 : decode (mC 4) 20 = .ok (.ireturn, 1) := by rw [mC_4]; decide +kernel
theorem d4_21 : decode (mC 4) 21 = .ok (.iinc 1 6, 3) := by rw [mC_4]; decide +kernel
theorem d4_24 : decode (mC 4) 24 = .ok (.goto (-22), 3) := by rw [mC_4]; decide +kernel
theorem d4_27 : decode (mC 4) 27 = .ok (.iconst (-1), 1) := by rw [mC_4]; decide +kernel
theorem d4_28 : decode (mC 4) 28 = .ok (.ireturn, 1) := by rw [mC_4]; decide +kernel
theorem s4_0 {S : Nat × (Nat → Int32)} {L : List (Option Value)} {st : List Value} {n : Nat} {Q : xQ} {μ : xM}  (h : x_V S 4 1 L (.int (I 0) :: st) μ n Q) : x_V S 4 0 L (st) μ n Q := x_iconst (by decide +kernel) d4_0 h
theorem s4_1 {S : Nat × (Nat → Int32)} {L : List (Option Value)} {st : List Value} {n : Nat} {Q : xQ} {μ : xM} {x : Int32} (h : x_V S 4 2 (L.set 1 (some (.int x))) (st) μ n Q) : x_V S 4 1 L (.int x :: st) μ n Q := x_istore_n d4_1 (by decide) h
theorem s4_2 {S : Nat × (Nat → Int32)} {L : List (Option Value)} {st : List Value} {n : Nat} {Q : xQ} {μ : xM} {x : Int32} (hl : L[1]? = some (some (.int x))) (h : x_V S 4 3 L (.int x :: st) μ n Q) : x_V S 4 2 L (st) μ n Q := x_iload_n d4_2 hl h
theorem s4_3 {S : Nat × (Nat → Int32)} {L : List (Option Value)} {st : List Value} {n : Nat} {Q : xQ} {μ : xM}  (h : x_V S 4 6 L (.ref 0 :: st) μ n Q) : x_V S 4 3 L (st) μ n Q := x_gets d4_3 w300 h
theorem s4_7 {S : Nat × (Nat → Int32)} {L : List (Option Value)} {st : List Value} {n : Nat} {Q : xQ} {μ : xM} {x y : Int} (hx : ib x) (hy : ib y) (kt : y ≤ x → x_V S 4 27 L (st) μ n Q) (kf : x < y → x_V S 4 10 L (st) μ n Q) : x_V S 4 7 L (.int (I y) :: .int (I x) :: st) μ n Q := v_icmp_ge d4_7 (by decide) hx hy kt kf
theorem s4_10 {S : Nat × (Nat → Int32)} {L : List (Option Value)} {st : List Value} {n : Nat} {Q : xQ} {μ : xM}  (h : x_V S 4 13 L (.ref 0 :: st) μ n Q) : x_V S 4 10 L (st) μ n Q := x_gets d4_10 w300 h
theorem s4_13 {S : Nat × (Nat → Int32)} {L : List (Option Value)} {st : List Value} {n : Nat} {Q : xQ} {μ : xM} {x : Int32} (hl : L[1]? = some (some (.int x))) (h : x_V S 4 14 L (.int x :: st) μ n Q) : x_V S 4 13 L (st) μ n Q := x_iload_n d4_13 hl h
theorem s4_15 {S : Nat × (Nat → Int32)} {L : List (Option Value)} {st : List Value} {n : Nat} {Q : xQ} {μ : xM} {x : Int32} (hl : L[0]? = some (some (.int x))) (h : x_V S 4 16 L (.int x :: st) μ n Q) : x_V S 4 15 L (st) μ n Q := x_iload_n d4_15 hl h
theorem s4_16 {S : Nat × (Nat → Int32)} {L : List (Option Value)} {st : List Value} {n : Nat} {Q : xQ} {μ : xM} {x y : Int} (hx : ib x) (hy : ib y) (kt : x ≠ y → x_V S 4 21 L (st) μ n Q) (kf : x = y → x_V S 4 19 L (st) μ n Q) : x_V S 4 16 L (.int (I y) :: .int (I x) :: st) μ n Q := v_icmp_ne d4_16 (by decide) hx hy kt kf
theorem s4_19 {S : Nat × (Nat → Int32)} {L : List (Option Value)} {st : List Value} {n : Nat} {Q : xQ} {μ : xM} {x : Int32} (hl : L[1]? = some (some (.int x))) (h : x_V S 4 20 L (.int x :: st) μ n Q) : x_V S 4 19 L (st) μ n Q := x_iload_n d4_19 hl h
theorem s4_20 {S : Nat × (Nat → Int32)} {L : List (Option Value)} {st : List Value} {n : Nat} {Q : xQ} {μ : xM} {x : Int32} (h : Q (.inl (some (.int x))) μ n) : x_V S 4 20 L (.int x :: []) μ n Q := x_ireturn d4_20 rfl rfl h
theorem s4_21 {S : Nat × (Nat → Int32)} {L : List (Option Value)} {st : List Value} {n : Nat} {Q : xQ} {μ : xM} {x : Int} (hl : L[1]? = some (some (.int (I x)))) (h : x_V S 4 24 (L.set 1 (some (.int (I (x + 6))))) (st) μ n Q) : x_V S 4 21 L (st) μ n Q := v_iinc d4_21 hl (by decide) h
theorem s4_24 {S : Nat × (Nat → Int32)} {L : List (Option Value)} {st : List Value} {n : Nat} {Q : xQ} {μ : xM}  (h : x_V S 4 2 L (st) μ n Q) : x_V S 4 24 L (st) μ n Q := x_goto (tgt := 2) (by decide) d4_24 h
theorem s4_27 {S : Nat × (Nat → Int32)} {L : List (Option Value)} {st : List Value} {n : Nat} {Q : xQ} {μ : xM}  (h : x_V S 4 28 L (.int (I (-1)) :: st) μ n Q) : x_V S 4 27 L (st) μ n Q := x_iconst (by decide +kernel) d4_27 h
theorem s4_28 {S : Nat × (Nat → Int32)} {L : List (Option Value)} {st : List Value} {n : Nat} {Q : xQ} {μ : xM} {x : Int32} (h : Q (.inl (some (.int x))) μ n) : x_V S 4 28 L (.int x :: []) μ n Q := x_ireturn d4_28 rfl rfl h
theorem mC_5 : mC 5 = prog_8_method_1_code := rfl
theorem d5_0 : decode (mC 5) 0 = .ok (.aload_n 0, 1) := by rw [mC_5]; decide +kernel
theorem d5_1 : decode (mC 5) 1 = .ok (.invokespecial 3, 3) := by rw [mC_5]; decide +kernel
theorem d5_4 : decode (mC 5) 4 = .ok (.aload_n 0, 1) := by rw [mC_5]; decide +kernel
theorem d5_5 : decode (mC 5) 5 = .ok (.bipush 120, 2) := by rw [mC_5]; decide +kernel
theorem d5_7 : decode (mC 5) 7 = .ok (.newarray .int, 2) := by rw [mC_5]; decide +kernel
theorem d5_9 : decode (mC 5) 9 = .ok (.putfield 11, 3) := by rw [mC_5]; decide +kernel
theorem d5_12 : decode (mC 5) 12 = .ok (.return_, 1) := by rw [mC_5]; decide +kernel
theorem s5_0 {S : Nat × (Nat → Int32)} {L : List (Option Value)} {st : List Value} {n : Nat} {Q : xQ} {μ : xM} {a : Nat} (hl : L[0]? = some (some (.ref a))) (h : x_V S 5 1 L (.ref a :: st) μ n Q) : x_V S 5 0 L (st) μ n Q := x_aload_n d5_0 hl h
theorem s5_0N {S : Nat × (Nat → Int32)} {L : List (Option Value)} {st : List Value} {n : Nat} {Q : xQ} {μ : xM} (hl : L[0]? = some (some .null)) (h : x_V S 5 1 L (.null :: st) μ n Q) : x_V S 5 0 L st μ n Q := x_aload_nN d5_0 hl h
theorem s5_1 {S : Nat × (Nat → Int32)} {L : List (Option Value)} {st : List Value} {n : Nat} {Q : xQ} {μ : xM} {a : Nat} (hst : st.length ≤ 4) (h : x_V S 5 4 L (st) μ n Q) : x_V S 5 1 L (.ref a :: st) μ n Q := x_objInit d5_1 w39 w26 w27 ⟨by decide, by decide⟩ hst h
theorem s5_4 {S : Nat × (Nat → Int32)} {L : List (Option Value)} {st : List Value} {n : Nat} {Q : xQ} {μ : xM} {a : Nat} (hl : L[0]? = some (some (.ref a))) (h : x_V S 5 5 L (.ref a :: st) μ n Q) : x_V S 5 4 L (st) μ n Q := x_aload_n d5_4 hl h
theorem s5_4N {S : Nat × (Nat → Int32)} {L : List (Option Value)} {st : List Value} {n : Nat} {Q : xQ} {μ : xM} (hl : L[0]? = some (some .null)) (h : x_V S 5 5 L (.null :: st) μ n Q) : x_V S 5 4 L st μ n Q := x_aload_nN d5_4 hl h
theorem s5_5 {S : Nat × (Nat → Int32)} {L : List (Option Value)} {st : List Value} {n : Nat} {Q : xQ} {μ : xM}  (h : x_V S 5 7 L (.int (I 120) :: st) μ n Q) : x_V S 5 5 L (st) μ n Q := x_bipush (by decide +kernel) d5_5 h
theorem s5_7 {S : Nat × (Nat → Int32)} {L : List (Option Value)} {st : List Value} {n : Nat} {Q : xQ} {μ : xM} {N : Nat} {i : Int32} (hs : x_sh n = (100, N)) (hi : ¬ i < 0) (hN : i.toNatClampNeg = N) (hb : N ≤ 8000) (hn : n < x_NM) (h : x_V S 5 9 L (.ref n :: st) (x_nw μ n (fun _ => defaultValue (x_ty 100))) (n + 1) Q) : x_V S 5 7 L (.int i :: st) μ n Q := x_newa (kd := 100) d5_7 w50 rfl (by decide) hs hi hN (Nat.le_trans (Nat.mul_le_mul_right _ hb) (by decide)) hn h
theorem s5_9 {S : Nat × (Nat → Int32)} {L : List (Option Value)} {st : List Value} {n : Nat} {Q : xQ} {μ : xM} {a b : Nat} (hs : x_sh a = (2, 2)) (h : x_V S 5 12 L (st) (x_up μ a 0 (.ref b)) n Q) : x_V S 5 9 L (.ref b :: .ref a :: st) μ n Q := x_putF (i := 0) cf2 d5_9 (by decide) rfl rfl rfl w40 hs (fun _ => ⟨rfl, rfl⟩) h
theorem s5_12 {S : Nat × (Nat → Int32)} {L : List (Option Value)} {st : List Value} {n : Nat} {Q : xQ} {μ : xM}  (h : Q (.inl none) μ n) : x_V S 5 12 L ([]) μ n Q := x_return d5_12 rfl h
theorem mC_6 : mC 6 = prog_8_method_2_code := rfl
theorem d6_0 : decode (mC 6) 0 = .ok (.aload_n 0, 1) := by rw [mC_6]; decide +kernel
theorem d6_1 : decode (mC 6) 1 = .ok (.iconst 0, 1) := by rw [mC_6]; decide +kernel
theorem d6_2 : decode (mC 6) 2 = .ok (.putfield 15, 3) := by rw [mC_6]; decide +kernel
theorem d6_5 : decode (mC 6) 5 = .ok (.return_, 1) := by rw [mC_6]; decide +kernel
theorem s6_0 {S : Nat × (Nat → Int32)} {L : List (Option Value)} {st : List Value} {n : Nat} {Q : xQ} {μ : xM} {a : Nat} (hl : L[0]? = some (some (.ref a))) (h : x_V S 6 1 L (.ref a :: st) μ n Q) : x_V S 6 0 L (st) μ n Q := x_aload_n d6_0 hl h
theorem s6_0N {S : Nat × (Nat → Int32)} {L : List (Option Value)} {st : List Value} {n : Nat} {Q : xQ} {μ : xM} (hl : L[0]? = some (some .null)) (h : x_V S 6 1 L (.null :: st) μ n Q) : x_V S 6 0 L st μ n Q := x_aload_nN d6_0 hl h
theorem s6_1 {S : Nat × (Nat → Int32)} {L : List (Option Value)} {st : List Value} {n : Nat} {Q : xQ} {μ : xM}  (h : x_V S 6 2 L (.int (I 0) :: st) μ n Q) : x_V S 6 1 L (st) μ n Q := x_iconst (by decide +kernel) d6_1 h
theorem s6_2 {S : Nat × (Nat → Int32)} {L : List (Option Value)} {st : List Value} {n : Nat} {Q : xQ} {g : Nat → Nat → Int} {a : Nat} {x : Int} (hs : x_sh a = (2, 2)) (hp : x_pt a 1 = none) (ha : a ≠ x_out) (h : x_V S 6 5 L (st) (x_vm (x_uf g a 1 x)) n Q) : x_V S 6 2 L (.int (I x) :: .ref a :: st) (x_vm g) n Q := v_put (i := 1) cf2 d6_2 (by decide) rfl w41 hs rfl hp ha h
theorem s6_5 {S : Nat × (Nat → Int32)} {L : List (Option Value)} {st : List Value} {n : Nat} {Q : xQ} {μ : xM}  (h : Q (.inl none) μ n) : x_V S 6 5 L ([]) μ n Q := x_return d6_5 rfl h
theorem mC_7 : mC 7 = prog_8_method_3_code := rfl
theorem d7_0 : decode (mC 7) 0 = .ok (.aload_n 0, 1) := by rw [mC_7]; decide +kernel
theorem d7_1 : decode (mC 7) 1 = .ok (.getfield 15, 3) := by rw [mC_7]; decide +kernel
theorem d7_4 : decode (mC 7) 4 = .ok (.bipush 120, 2) := by rw [mC_7]; decide +kernel
theorem d7_6 : decode (mC 7) 6 = .ok (.if_icmp .lt 7, 3) := by rw [mC_7]; decide +kernel
theorem d7_9 : decode (mC 7) 9 = .ok (.iconst 1, 1) := by rw [mC_7]; decide +kernel
theorem d7_10 : decode (mC 7) 10 = .ok (.goto 4, 3) := by rw [mC_7]; decide +kernel
theorem d7_13 : decode (mC 7) 13 = .ok (.iconst 0, 1) := by rw [mC_7]; decide +kernel
theorem d7_14 : decode (mC 7) 14 = .ok (.ireturn, 1) := by rw [mC_7]; decide +kernel
theorem s7_0 {S : Nat × (Nat → Int32)} {L : List (Option Value)} {st : List Value} {n : Nat} {Q : xQ} {μ : xM} {a : Nat} (hl : L[0]? = some (some (.ref a))) (h : x_V S 7 1 L (.ref a :: st) μ n Q) : x_V S 7 0 L (st) μ n Q := x_aload_n d7_0 hl h
theorem s7_0N {S : Nat × (Nat → Int32)} {L : List (Option Value)} {st : List Value} {n : Nat} {Q : xQ} {μ : xM} (hl : L[0]? = some (some .null)) (h : x_V S 7 1 L (.null :: st) μ n Q) : x_V S 7 0 L st μ n Q := x_aload_nN d7_0 hl h
theorem s7_1 {S : Nat × (Nat → Int32)} {L : List (Option Value)} {st : List Value} {n : Nat} {Q : xQ} {g : Nat → Nat → Int} {a : Nat} (hs : x_sh a = (2, 2)) (hp : x_pt a 1 = none) (ha : a ≠ x_out) (h : x_V S 7 4 L (.int (I (g a 1)) :: st) (x_vm g) n Q) : x_V S 7 1 L (.ref a :: st) (x_vm g) n Q := v_get (i := 1) cf2 d7_1 (by decide) w41 hs hp ha h
theorem s7_4 {S : Nat × (Nat → Int32)} {L : List (Option Value)} {st : List Value} {n : Nat} {Q : xQ} {μ : xM}  (h : x_V S 7 6 L (.int (I 120) :: st) μ n Q) : x_V S 7 4 L (st) μ n Q := x_bipush (by decide +kernel) d7_4 h
theorem s7_6 {S : Nat × (Nat → Int32)} {L : List (Option Value)} {st : List Value} {n : Nat} {Q : xQ} {μ : xM} {x y : Int} (hx : ib x) (hy : ib y) (kt : x < y → x_V S 7 13 L (st) μ n Q) (kf : y ≤ x → x_V S 7 9 L (st) μ n Q) : x_V S 7 6 L (.int (I y) :: .int (I x) :: st) μ n Q := v_icmp_lt d7_6 (by decide) hx hy kt kf
theorem s7_9 {S : Nat × (Nat → Int32)} {L : List (Option Value)} {st : List Value} {n : Nat} {Q : xQ} {μ : xM}  (h : x_V S 7 10 L (.int (I 1) :: st) μ n Q) : x_V S 7 9 L (st) μ n Q := x_iconst (by decide +kernel) d7_9 h
theorem s7_10 {S : Nat × (Nat → Int32)} {L : List (Option Value)} {st : List Value} {n : Nat} {Q : xQ} {μ : xM}  (h : x_V S 7 14 L (st) μ n Q) : x_V S 7 10 L (st) μ n Q := x_goto (tgt := 14) (by decide) d7_10 h
theorem s7_13 {S : Nat × (Nat → Int32)} {L : List (Option Value)} {st : List Value} {n : Nat} {Q : xQ} {μ : xM}  (h : x_V S 7 14 L (.int (I 0) :: st) μ n Q) : x_V S 7 13 L (st) μ n Q := x_iconst (by decide +kernel) d7_13 h
theorem s7_14 {S : Nat × (Nat → Int32)} {L : List (Option Value)} {st : List Value} {n : Nat} {Q : xQ} {μ : xM} {v : Int} (hv : v = 0 ∨ v = 1) (h : Q (.inl (some (.int (I v)))) μ n) : x_V S 7 14 L (.int (I v) :: []) μ n Q := v_zreturn d7_14 rfl hv h
theorem mC_8 : mC 8 = prog_8_method_4_code := rfl
theorem d8_0 : decode (mC 8) 0 = .ok (.iload_n 1, 1) := by rw [mC_8]; decide +kernel
theorem d8_1 : decode (mC 8) 1 = .ok (.ifCond .lt 15, 3) := by rw [mC_8]; decide +kernel
theorem d8_4 : decode (mC 8) 4 = .ok (.iload_n 1, 1) := by rw [mC_8]; decide +kernel
theorem d8_5 : decode (mC 8) 5 = .ok (.aload_n 0, 1) := by rw [mC_8]; decide +kernel
theorem d8_6 : decode (mC 8) 6 = .ok (.getfield 15, 3) := by rw [mC_8]; decide +kernel
theorem d8_9 : decode (mC 8) 9 = .ok (.if_icmp .ge 7, 3) := by rw [mC_8]; decide +kernel
theorem d8_12 : decode (mC 8) 12 = .ok (.iconst 1, 1) := by rw [mC_8]; decide +kernel
theorem d8_13 : decode (mC 8) 13 = .ok (.goto 4, 3) := by rw [mC_8]; decide +kernel
theorem d8_16 : decode (mC 8) 16 = .ok (.iconst 0, 1) := by rw [mC_8]; decide +kernel
theorem d8_17 : decode (mC 8) 17 = .ok (.ireturn, 1) := by rw [mC_8]; decide +kernel
theorem s8_0 {S : Nat × (Nat → Int32)} {L : List (Option Value)} {st : List Value} {n : Nat} {Q : xQ} {μ : xM} {x : Int32} (hl : L[1]? = some (some (.int x))) (h : x_V S 8 1 L (.int x :: st) μ n Q) : x_V S 8 0 L (st) μ n Q := x_iload_n d8_0 hl h
theorem s8_1 {S : Nat × (Nat → Int32)} {L : List (Option Value)} {st : List Value} {n : Nat} {Q : xQ} {μ : xM} {x : Int} (hx : ib x) (kt : x < 0 → x_V S 8 16 L (st) μ n Q) (kf : 0 ≤ x → x_V S 8 4 L (st) μ n Q) : x_V S 8 1 L (.int (I x) :: st) μ n Q := v_if_lt d8_1 (by decide) hx kt kf
theorem s8_4 {S : Nat × (Nat → Int32)} {L : List (Option Value)} {st : List Value} {n : Nat} {Q : xQ} {μ : xM} {x : Int32} (hl : L[1]? = some (some (.int x))) (h : x_V S 8 5 L (.int x :: st) μ n Q) : x_V S 8 4 L (st) μ n Q := x_iload_n d8_4 hl h
theorem s8_5 {S : Nat × (Nat → Int32)} {L : List (Option Value)} {st : List Value} {n : Nat} {Q : xQ} {μ : xM} {a : Nat} (hl : L[0]? = some (some (.ref a))) (h : x_V S 8 6 L (.ref a :: st) μ n Q) : x_V S 8 5 L (st) μ n Q := x_aload_n d8_5 hl h
theorem s8_5N {S : Nat × (Nat → Int32)} {L : List (Option Value)} {st : List Value} {n : Nat} {Q : xQ} {μ : xM} (hl : L[0]? = some (some .null)) (h : x_V S 8 6 L (.null :: st) μ n Q) : x_V S 8 5 L st μ n Q := x_aload_nN d8_5 hl h
theorem s8_6 {S : Nat × (Nat → Int32)} {L : List (Option Value)} {st : List Value} {n : Nat} {Q : xQ} {g : Nat → Nat → Int} {a : Nat} (hs : x_sh a = (2, 2)) (hp : x_pt a 1 = none) (ha : a ≠ x_out) (h : x_V S 8 9 L (.int (I (g a 1)) :: st) (x_vm g) n Q) : x_V S 8 6 L (.ref a :: st) (x_vm g) n Q := v_get (i := 1) cf2 d8_6 (by decide) w41 hs hp ha h
theorem s8_9 {S : Nat × (Nat → Int32)} {L : List (Option Value)} {st : List Value} {n : Nat} {Q : xQ} {μ : xM} {x y : Int} (hx : ib x) (hy : ib y) (kt : y ≤ x → x_V S 8 16 L (st) μ n Q) (kf : x < y → x_V S 8 12 L (st) μ n Q) : x_V S 8 9 L (.int (I y) :: .int (I x) :: st) μ n Q := v_icmp_ge d8_9 (by decide) hx hy kt kf
theorem s8_12 {S : Nat × (Nat → Int32)} {L : List (Option Value)} {st : List Value} {n : Nat} {Q : xQ} {μ : xM}  (h : x_V S 8 13 L (.int (I 1) :: st) μ n Q) : x_V S 8 12 L (st) μ n Q := x_iconst (by decide +kernel) d8_12 h
theorem s8_13 {S : Nat × (Nat → Int32)} {L : List (Option Value)} {st : List Value} {n : Nat} {Q : xQ} {μ : xM}  (h : x_V S 8 17 L (st) μ n Q) : x_V S 8 13 L (st) μ n Q := x_goto (tgt := 17) (by decide) d8_13 h
theorem s8_16 {S : Nat × (Nat → Int32)} {L : List (Option Value)} {st : List Value} {n : Nat} {Q : xQ} {μ : xM}  (h : x_V S 8 17 L (.int (I 0) :: st) μ n Q) : x_V S 8 16 L (st) μ n Q := x_iconst (by decide +kernel) d8_16 h
theorem s8_17 {S : Nat × (Nat → Int32)} {L : List (Option Value)} {st : List Value} {n : Nat} {Q : xQ} {μ : xM} {v : Int} (hv : v = 0 ∨ v = 1) (h : Q (.inl (some (.int (I v)))) μ n) : x_V S 8 17 L (.int (I v) :: []) μ n Q := v_zreturn d8_17 rfl hv h
theorem mC_9 : mC 9 = prog_8_method_5_code := rfl
theorem d9_0 : decode (mC 9) 0 = .ok (.iload_n 1, 1) := by rw [mC_9]; decide +kernel
theorem d9_1 : decode (mC 9) 1 = .ok (.ifCond .lt 20, 3) := by rw [mC_9]; decide +kernel
theorem d9_4 : decode (mC 9) 4 = .ok (.iload_n 1, 1) := by rw [mC_9]; decide +kernel
theorem d9_5 : decode (mC 9) 5 = .ok (.aload_n 0, 1) := by rw [mC_9]; decide +kernel
theorem d9_6 : decode (mC 9) 6 = .ok (.getfield 15, 3) := by rw [mC_9]; decide +kernel
theorem d9_9 : decode (mC 9) 9 = .ok (.if_icmp .ge 12, 3) := by rw [mC_9]; decide +kernel
theorem d9_12 : decode (mC 9) 12 = .ok (.aload_n 0, 1) := by rw [mC_9]; decide +kernel
theorem d9_13 : decode (mC 9) 13 = .ok (.getfield 11, 3) := by rw [mC_9]; decide +kernel
theorem d9_16 : decode (mC 9) 16 = .ok (.iload_n 1, 1) := by rw [mC_9]; decide +kernel
theorem d9_17 : decode (mC 9) 17 = .ok (.iaload, 1) := by rw [mC_9]; decide +kernel
theorem d9_18 : decode (mC 9) 18 = .ok (.goto 4, 3) := by rw [mC_9]; decide +kernel
theorem d9_21 : decode (mC 9) 21 = .ok (.iconst (-1), 1) := by rw [mC_9]; decide +kernel
theorem d9_22 : decode (mC 9) 22 = .ok (.ireturn, 1) := by rw [mC_9]; decide +kernel
theorem s9_0 {S : Nat × (Nat → Int32)} {L : List (Option Value)} {st : List Value} {n : Nat} {Q : xQ} {μ : xM} {x : Int32} (hl : L[1]? = some (some (.int x))) (h : x_V S 9 1 L (.int x :: st) μ n Q) : x_V S 9 0 L (st) μ n Q := x_iload_n d9_0 hl h
theorem s9_1 {S : Nat × (Nat → Int32)} {L : List (Option Value)} {st : List Value} {n : Nat} {Q : xQ} {μ : xM} {x : Int} (hx : ib x) (kt : x < 0 → x_V S 9 21 L (st) μ n Q) (kf : 0 ≤ x → x_V S 9 4 L (st) μ n Q) : x_V S 9 1 L (.int (I x) :: st) μ n Q := v_if_lt d9_1 (by decide) hx kt kf
theorem s9_4 {S : Nat × (Nat → Int32)} {L : List (Option Value)} {st : List Value} {n : Nat} {Q : xQ} {μ : xM} {x : Int32} (hl : L[1]? = some (some (.int x))) (h : x_V S 9 5 L (.int x :: st) μ n Q) : x_V S 9 4 L (st) μ n Q := x_iload_n d9_4 hl h
theorem s9_5 {S : Nat × (Nat → Int32)} {L : List (Option Value)} {st : List Value} {n : Nat} {Q : xQ} {μ : xM} {a : Nat} (hl : L[0]? = some (some (.ref a))) (h : x_V S 9 6 L (.ref a :: st) μ n Q) : x_V S 9 5 L (st) μ n Q := x_aload_n d9_5 hl h
theorem s9_5N {S : Nat × (Nat → Int32)} {L : List (Option Value)} {st : List Value} {n : Nat} {Q : xQ} {μ : xM} (hl : L[0]? = some (some .null)) (h : x_V S 9 6 L (.null :: st) μ n Q) : x_V S 9 5 L st μ n Q := x_aload_nN d9_5 hl h
theorem s9_6 {S : Nat × (Nat → Int32)} {L : List (Option Value)} {st : List Value} {n : Nat} {Q : xQ} {g : Nat → Nat → Int} {a : Nat} (hs : x_sh a = (2, 2)) (hp : x_pt a 1 = none) (ha : a ≠ x_out) (h : x_V S 9 9 L (.int (I (g a 1)) :: st) (x_vm g) n Q) : x_V S 9 6 L (.ref a :: st) (x_vm g) n Q := v_get (i := 1) cf2 d9_6 (by decide) w41 hs hp ha h
theorem s9_9 {S : Nat × (Nat → Int32)} {L : List (Option Value)} {st : List Value} {n : Nat} {Q : xQ} {μ : xM} {x y : Int} (hx : ib x) (hy : ib y) (kt : y ≤ x → x_V S 9 21 L (st) μ n Q) (kf : x < y → x_V S 9 12 L (st) μ n Q) : x_V S 9 9 L (.int (I y) :: .int (I x) :: st) μ n Q := v_icmp_ge d9_9 (by decide) hx hy kt kf
theorem s9_12 {S : Nat × (Nat → Int32)} {L : List (Option Value)} {st : List Value} {n : Nat} {Q : xQ} {μ : xM} {a : Nat} (hl : L[0]? = some (some (.ref a))) (h : x_V S 9 13 L (.ref a :: st) μ n Q) : x_V S 9 12 L (st) μ n Q := x_aload_n d9_12 hl h
theorem s9_12N {S : Nat × (Nat → Int32)} {L : List (Option Value)} {st : List Value} {n : Nat} {Q : xQ} {μ : xM} (hl : L[0]? = some (some .null)) (h : x_V S 9 13 L (.null :: st) μ n Q) : x_V S 9 12 L st μ n Q := x_aload_nN d9_12 hl h
theorem s9_13 {S : Nat × (Nat → Int32)} {L : List (Option Value)} {st : List Value} {n : Nat} {Q : xQ} {g : Nat → Nat → Int} {a : Nat} {v : Value} (hs : x_sh a = (2, 2)) (hp : x_pt a 0 = some v) (h : x_V S 9 16 L (v :: st) (x_vm g) n Q) : x_V S 9 13 L (.ref a :: st) (x_vm g) n Q := v_getp (i := 0) cf2 d9_13 (by decide) w40 hs hp h
theorem s9_16 {S : Nat × (Nat → Int32)} {L : List (Option Value)} {st : List Value} {n : Nat} {Q : xQ} {μ : xM} {x : Int32} (hl : L[1]? = some (some (.int x))) (h : x_V S 9 17 L (.int x :: st) μ n Q) : x_V S 9 16 L (st) μ n Q := x_iload_n d9_16 hl h
theorem s9_18 {S : Nat × (Nat → Int32)} {L : List (Option Value)} {st : List Value} {n : Nat} {Q : xQ} {μ : xM}  (h : x_V S 9 22 L (st) μ n Q) : x_V S 9 18 L (st) μ n Q := x_goto (tgt := 22) (by decide) d9_18 h
theorem s9_21 {S : Nat × (Nat → Int32)} {L : List (Option Value)} {st : List Value} {n : Nat} {Q : xQ} {μ : xM}  (h : x_V S 9 22 L (.int (I (-1)) :: st) μ n Q) : x_V S 9 21 L (st) μ n Q := x_iconst (by decide +kernel) d9_21 h
theorem s9_22 {S : Nat × (Nat → Int32)} {L : List (Option Value)} {st : List Value} {n : Nat} {Q : xQ} {μ : xM} {x : Int32} (h : Q (.inl (some (.int x))) μ n) : x_V S 9 22 L (.int x :: []) μ n Q := x_ireturn d9_22 rfl rfl h
theorem mC_10 : mC 10 = prog_8_method_6_code := rfl
theorem d10_0 : decode (mC 10) 0 = .ok (.aload_n 0, 1) := by rw [mC_10]; decide +kernel
theorem d10_1 : decode (mC 10) 1 = .ok (.iload_n 1, 1) := by rw [mC_10]; decide +kernel
theorem d10_2 : decode (mC 10) 2 = .ok (.invokevirtual 19, 3) := by rw [mC_10]; decide +kernel
theorem d10_5 : decode (mC 10) 5 = .ok (.ifCond .eq 10, 3) := by rw [mC_10]; decide +kernel
theorem d10_8 : decode (mC 10) 8 = .ok (.aload_n 0, 1) := by rw [mC_10]; decide +kernel
theorem d10_9 : decode (mC 10) 9 = .ok (.getfield 11, 3) := by rw [mC_10]; decide +kernel
theorem d10_12 : decode (mC 10) 12 = .ok (.iload_n 1, 1) := by rw [mC_10]; decide +kernel
theorem d10_13 : decode (mC 10) 13 = .ok (.iload_n 2, 1) := by rw [mC_10]; decide +kernel
theorem d10_14 : decode (mC 10) 14 = .ok (.iastore, 1) := by rw [mC_10]; decide +kernel
theorem d10_15 : decode (mC 10) 15 = .ok (.return_, 1) := by rw [mC_10]; decide +kernel
theorem s10_0 {S : Nat × (Nat → Int32)} {L : List (Option Value)} {st : List Value} {n : Nat} {Q : xQ} {μ : xM} {a : Nat} (hl : L[0]? = some (some (.ref a))) (h : x_V S 10 1 L (.ref a :: st) μ n Q) : x_V S 10 0 L (st) μ n Q := x_aload_n d10_0 hl h
theorem s10_0N {S : Nat × (Nat → Int32)} {L : List (Option Value)} {st : List Value} {n : Nat} {Q : xQ} {μ : xM} (hl : L[0]? = some (some .null)) (h : x_V S 10 1 L (.null :: st) μ n Q) : x_V S 10 0 L st μ n Q := x_aload_nN d10_0 hl h
theorem s10_1 {S : Nat × (Nat → Int32)} {L : List (Option Value)} {st : List Value} {n : Nat} {Q : xQ} {μ : xM} {x : Int32} (hl : L[1]? = some (some (.int x))) (h : x_V S 10 2 L (.int x :: st) μ n Q) : x_V S 10 1 L (st) μ n Q := x_iload_n d10_1 hl h
theorem s10_2 {S : Nat × (Nat → Int32)} {L : List (Option Value)} {st : List Value} {n : Nat} {Q : xQ} {μ : xM} {x0 : Int32} {a : Nat} (hs : x_sh a = (2, 2)) (hst : st.length ≤ 4) (h : x_V S 8 0 [some (.ref a), some (.int x0)] [] μ n (x_bk S 10 2 L st Q)) : x_V S 10 2 L (.int x0 :: .ref a :: st) μ n Q := x_callV (k' := 8) (as := [.int x0]) (na := 1) d10_2 ⟨w418, by decide +kernel, by decide, by decide, by decide, by decide, by decide⟩ cf2 w415 w416 w417 (by decide +kernel) rfl hs (fun v hv => by
    simp only [List.mem_cons, List.not_mem_nil, or_false] at hv
    rcases hv with rfl <;> first | rfl | assumption) hst h
theorem s10_5 {S : Nat × (Nat → Int32)} {L : List (Option Value)} {st : List Value} {n : Nat} {Q : xQ} {μ : xM} {x : Int} (hx : ib x) (kt : x = 0 → x_V S 10 15 L (st) μ n Q) (kf : x ≠ 0 → x_V S 10 8 L (st) μ n Q) : x_V S 10 5 L (.int (I x) :: st) μ n Q := v_if_eq d10_5 (by decide) hx kt kf
theorem s10_8 {S : Nat × (Nat → Int32)} {L : List (Option Value)} {st : List Value} {n : Nat} {Q : xQ} {μ : xM} {a : Nat} (hl : L[0]? = some (some (.ref a))) (h : x_V S 10 9 L (.ref a :: st) μ n Q) : x_V S 10 8 L (st) μ n Q := x_aload_n d10_8 hl h
theorem s10_8N {S : Nat × (Nat → Int32)} {L : List (Option Value)} {st : List Value} {n : Nat} {Q : xQ} {μ : xM} (hl : L[0]? = some (some .null)) (h : x_V S 10 9 L (.null :: st) μ n Q) : x_V S 10 8 L st μ n Q := x_aload_nN d10_8 hl h
theorem s10_9 {S : Nat × (Nat → Int32)} {L : List (Option Value)} {st : List Value} {n : Nat} {Q : xQ} {g : Nat → Nat → Int} {a : Nat} {v : Value} (hs : x_sh a = (2, 2)) (hp : x_pt a 0 = some v) (h : x_V S 10 12 L (v :: st) (x_vm g) n Q) : x_V S 10 9 L (.ref a :: st) (x_vm g) n Q := v_getp (i := 0) cf2 d10_9 (by decide) w40 hs hp h
theorem s10_12 {S : Nat × (Nat → Int32)} {L : List (Option Value)} {st : List Value} {n : Nat} {Q : xQ} {μ : xM} {x : Int32} (hl : L[1]? = some (some (.int x))) (h : x_V S 10 13 L (.int x :: st) μ n Q) : x_V S 10 12 L (st) μ n Q := x_iload_n d10_12 hl h
theorem s10_13 {S : Nat × (Nat → Int32)} {L : List (Option Value)} {st : List Value} {n : Nat} {Q : xQ} {μ : xM} {x : Int32} (hl : L[2]? = some (some (.int x))) (h : x_V S 10 14 L (.int x :: st) μ n Q) : x_V S 10 13 L (st) μ n Q := x_iload_n d10_13 hl h
theorem s10_15 {S : Nat × (Nat → Int32)} {L : List (Option Value)} {st : List Value} {n : Nat} {Q : xQ} {μ : xM}  (h : Q (.inl none) μ n) : x_V S 10 15 L ([]) μ n Q := x_return d10_15 rfl h
theorem mC_11 : mC 11 = prog_8_method_7_code := rfl
theorem d11_0 : decode (mC 11) 0 = .ok (.aload_n 0, 1) := by rw [mC_11]; decide +kernel
theorem d11_1 : decode (mC 11) 1 = .ok (.getfield 15, 3) := by rw [mC_11]; decide +kernel
theorem d11_4 : decode (mC 11) 4 = .ok (.bipush 120, 2) := by rw [mC_11]; decide +kernel
theorem d11_6 : decode (mC 11) 6 = .ok (.if_icmp .ge 23, 3) := by rw [mC_11]; decide +kernel
theorem d11_9 : decode (mC 11) 9 = .ok (.aload_n 0, 1) := by rw [mC_11]; decide +kernel
theorem d11_10 : decode (mC 11) 10 = .ok (.getfield 11, 3) := by rw [mC_11]; decide +kernel
theorem d11_13 : decode (mC 11) 13 = .ok (.aload_n 0, 1) := by rw [mC_11]; decide +kernel
theorem d11_14 : decode (mC 11) 14 = .ok (.getfield 15, 3) := by rw [mC_11]; decide +kernel
theorem d11_17 : decode (mC 11) 17 = .ok (.iload_n 1, 1) := by rw [mC_11]; decide +kernel
theorem d11_18 : decode (mC 11) 18 = .ok (.iastore, 1) := by rw [mC_11]; decide +kernel
theorem d11_19 : decode (mC 11) 19 = .ok (.aload_n 0, 1) := by rw [mC_11]; decide +kernel
theorem d11_20 : decode (mC 11) 20 = .ok (.dup, 1) := by rw [mC_11]; decide +kernel
theorem d11_21 : decode (mC 11) 21 = .ok (.getfield 15, 3) := by rw [mC_11]; decide +kernel
theorem d11_24 : decode (mC 11) 24 = .ok (.iconst 1, 1) := by rw [mC_11]; decide +kernel
theorem d11_25 : decode (mC 11) 25 = .ok (.iadd, 1) := by rw [mC_11]; decide +kernel
theorem d11_26 : decode (mC 11) 26 = .ok (.putfield 15, 3) := by rw [mC_11]; decide +kernel
theorem d11_29 : decode (mC 11) 29 = .ok (.return_, 1) := by rw [mC_11]; decide +kernel
theorem s11_0 {S : Nat × (Nat → Int32)} {L : List (Option Value)} {st : List Value} {n : Nat} {Q : xQ} {μ : xM} {a : Nat} (hl : L[0]? = some (some (.ref a))) (h : x_V S 11 1 L (.ref a :: st) μ n Q) : x_V S 11 0 L (st) μ n Q := x_aload_n d11_0 hl h
theorem s11_0N {S : Nat × (Nat → Int32)} {L : List (Option Value)} {st : List Value} {n : Nat} {Q : xQ} {μ : xM} (hl : L[0]? = some (some .null)) (h : x_V S 11 1 L (.null :: st) μ n Q) : x_V S 11 0 L st μ n Q := x_aload_nN d11_0 hl h
theorem s11_1 {S : Nat × (Nat → Int32)} {L : List (Option Value)} {st : List Value} {n : Nat} {Q : xQ} {g : Nat → Nat → Int} {a : Nat} (hs : x_sh a = (2, 2)) (hp : x_pt a 1 = none) (ha : a ≠ x_out) (h : x_V S 11 4 L (.int (I (g a 1)) :: st) (x_vm g) n Q) : x_V S 11 1 L (.ref a :: st) (x_vm g) n Q := v_get (i := 1) cf2 d11_1 (by decide) w41 hs hp ha h
theorem s11_4 {S : Nat × (Nat → Int32)} {L : List (Option Value)} {st : List Value} {n : Nat} {Q : xQ} {μ : xM}  (h : x_V S 11 6 L (.int (I 120) :: st) μ n Q) : x_V S 11 4 L (st) μ n Q := x_bipush (by decide +kernel) d11_4 h
theorem s11_6 {S : Nat × (Nat → Int32)} {L : List (Option Value)} {st : List Value} {n : Nat} {Q : xQ} {μ : xM} {x y : Int} (hx : ib x) (hy : ib y) (kt : y ≤ x → x_V S 11 29 L (st) μ n Q) (kf : x < y → x_V S 11 9 L (st) μ n Q) : x_V S 11 6 L (.int (I y) :: .int (I x) :: st) μ n Q := v_icmp_ge d11_6 (by decide) hx hy kt kf
theorem s11_9 {S : Nat × (Nat → Int32)} {L : List (Option Value)} {st : List Value} {n : Nat} {Q : xQ} {μ : xM} {a : Nat} (hl : L[0]? = some (some (.ref a))) (h : x_V S 11 10 L (.ref a :: st) μ n Q) : x_V S 11 9 L (st) μ n Q := x_aload_n d11_9 hl h
theorem s11_9N {S : Nat × (Nat → Int32)} {L : List (Option Value)} {st : List Value} {n : Nat} {Q : xQ} {μ : xM} (hl : L[0]? = some (some .null)) (h : x_V S 11 10 L (.null :: st) μ n Q) : x_V S 11 9 L st μ n Q := x_aload_nN d11_9 hl h
theorem s11_10 {S : Nat × (Nat → Int32)} {L : List (Option Value)} {st : List Value} {n : Nat} {Q : xQ} {g : Nat → Nat → Int} {a : Nat} {v : Value} (hs : x_sh a = (2, 2)) (hp : x_pt a 0 = some v) (h : x_V S 11 13 L (v :: st) (x_vm g) n Q) : x_V S 11 10 L (.ref a :: st) (x_vm g) n Q := v_getp (i := 0) cf2 d11_10 (by decide) w40 hs hp h
theorem s11_13 {S : Nat × (Nat → Int32)} {L : List (Option Value)} {st : List Value} {n : Nat} {Q : xQ} {μ : xM} {a : Nat} (hl : L[0]? = some (some (.ref a))) (h : x_V S 11 14 L (.ref a :: st) μ n Q) : x_V S 11 13 L (st) μ n Q := x_aload_n d11_13 hl h
theorem s11_13N {S : Nat × (Nat → Int32)} {L : List (Option Value)} {st : List Value} {n : Nat} {Q : xQ} {μ : xM} (hl : L[0]? = some (some .null)) (h : x_V S 11 14 L (.null :: st) μ n Q) : x_V S 11 13 L st μ n Q := x_aload_nN d11_13 hl h
theorem s11_14 {S : Nat × (Nat → Int32)} {L : List (Option Value)} {st : List Value} {n : Nat} {Q : xQ} {g : Nat → Nat → Int} {a : Nat} (hs : x_sh a = (2, 2)) (hp : x_pt a 1 = none) (ha : a ≠ x_out) (h : x_V S 11 17 L (.int (I (g a 1)) :: st) (x_vm g) n Q) : x_V S 11 14 L (.ref a :: st) (x_vm g) n Q := v_get (i := 1) cf2 d11_14 (by decide) w41 hs hp ha h
theorem s11_17 {S : Nat × (Nat → Int32)} {L : List (Option Value)} {st : List Value} {n : Nat} {Q : xQ} {μ : xM} {x : Int32} (hl : L[1]? = some (some (.int x))) (h : x_V S 11 18 L (.int x :: st) μ n Q) : x_V S 11 17 L (st) μ n Q := x_iload_n d11_17 hl h
theorem s11_19 {S : Nat × (Nat → Int32)} {L : List (Option Value)} {st : List Value} {n : Nat} {Q : xQ} {μ : xM} {a : Nat} (hl : L[0]? = some (some (.ref a))) (h : x_V S 11 20 L (.ref a :: st) μ n Q) : x_V S 11 19 L (st) μ n Q := x_aload_n d11_19 hl h
theorem s11_19N {S : Nat × (Nat → Int32)} {L : List (Option Value)} {st : List Value} {n : Nat} {Q : xQ} {μ : xM} (hl : L[0]? = some (some .null)) (h : x_V S 11 20 L (.null :: st) μ n Q) : x_V S 11 19 L st μ n Q := x_aload_nN d11_19 hl h
theorem s11_20 {S : Nat × (Nat → Int32)} {L : List (Option Value)} {st : List Value} {n : Nat} {Q : xQ} {μ : xM} {v : Value} (hc : v.category = 1) (h : x_V S 11 21 L (v :: v :: st) μ n Q) : x_V S 11 20 L (v :: st) μ n Q := x_dup hc d11_20 h
theorem s11_21 {S : Nat × (Nat → Int32)} {L : List (Option Value)} {st : List Value} {n : Nat} {Q : xQ} {g : Nat → Nat → Int} {a : Nat} (hs : x_sh a = (2, 2)) (hp : x_pt a 1 = none) (ha : a ≠ x_out) (h : x_V S 11 24 L (.int (I (g a 1)) :: st) (x_vm g) n Q) : x_V S 11 21 L (.ref a :: st) (x_vm g) n Q := v_get (i := 1) cf2 d11_21 (by decide) w41 hs hp ha h
theorem s11_24 {S : Nat × (Nat → Int32)} {L : List (Option Value)} {st : List Value} {n : Nat} {Q : xQ} {μ : xM}  (h : x_V S 11 25 L (.int (I 1) :: st) μ n Q) : x_V S 11 24 L (st) μ n Q := x_iconst (by decide +kernel) d11_24 h
theorem s11_25 {S : Nat × (Nat → Int32)} {L : List (Option Value)} {st : List Value} {n : Nat} {Q : xQ} {μ : xM} {x y : Int} (h : x_V S 11 26 L (.int (I (x + y)) :: st) μ n Q) : x_V S 11 25 L (.int (I y) :: .int (I x) :: st) μ n Q := v_iadd d11_25 h
theorem s11_26 {S : Nat × (Nat → Int32)} {L : List (Option Value)} {st : List Value} {n : Nat} {Q : xQ} {g : Nat → Nat → Int} {a : Nat} {x : Int} (hs : x_sh a = (2, 2)) (hp : x_pt a 1 = none) (ha : a ≠ x_out) (h : x_V S 11 29 L (st) (x_vm (x_uf g a 1 x)) n Q) : x_V S 11 26 L (.int (I x) :: .ref a :: st) (x_vm g) n Q := v_put (i := 1) cf2 d11_26 (by decide) rfl w41 hs rfl hp ha h
theorem s11_29 {S : Nat × (Nat → Int32)} {L : List (Option Value)} {st : List Value} {n : Nat} {Q : xQ} {μ : xM}  (h : Q (.inl none) μ n) : x_V S 11 29 L ([]) μ n Q := x_return d11_29 rfl h
theorem mC_12 : mC 12 = prog_8_method_8_code := rfl
theorem d12_0 : decode (mC 12) 0 = .ok (.iconst 0, 1) := by rw [mC_12]; decide +kernel
theorem d12_1 : decode (mC 12) 1 = .ok (.istore_n 2, 1) := by rw [mC_12]; decide +kernel
theorem d12_2 : decode (mC 12) 2 = .ok (.ldc 23, 2) := by rw [mC_12]; decide +kernel
theorem d12_4 : decode (mC 12) 4 = .ok (.istore_n 3, 1) := by rw [mC_12]; decide +kernel
theorem d12_5 : decode (mC 12) 5 = .ok (.iload_n 3, 1) := by rw [mC_12]; decide +kernel
theorem d12_6 : decode (mC 12) 6 = .ok (.ifCond .le 52, 3) := by rw [mC_12]; decide +kernel
theorem d12_9 : decode (mC 12) 9 = .ok (.iload_n 1, 1) := by rw [mC_12]; decide +kernel
theorem d12_10 : decode (mC 12) 10 = .ok (.iload_n 3, 1) := by rw [mC_12]; decide +kernel
theorem d12_11 : decode (mC 12) 11 = .ok (.idiv, 1) := by rw [mC_12]; decide +kernel
theorem d12_12 : decode (mC 12) 12 = .ok (.bipush 10, 2) := by rw [mC_12]; decide +kernel
theorem d12_14 : decode (mC 12) 14 = .ok (.irem, 1) := by rw [mC_12]; decide +kernel
theorem d12_15 : decode (mC 12) 15 = .ok (.istore 4, 2) := by rw [mC_12]; decide +kernel
theorem d12_17 : decode (mC 12) 17 = .ok (.iload_n 2, 1) := by rw [mC_12]; decide +kernel
theorem d12_18 : decode (mC 12) 18 = .ok (.ifCond .ne 13, 3) := by rw [mC_12]; decide +kernel
theorem d12_21 : decode (mC 12) 21 = .ok (.iload 4, 2) := by rw [mC_12]; decide +kernel
theorem d12_23 : decode (mC 12) 23 = .ok (.ifCond .ne 8, 3) := by rw [mC_12]; decide +kernel
theorem d12_26 : decode (mC 12) 26 = .ok (.iload_n 3, 1) := by rw [mC_12]; decide +kernel
theorem d12_27 : decode (mC 12) 27 = .ok (.iconst 1, 1) := by rw [mC_12]; decide +kernel
theorem d12_28 : decode (mC 12) 28 = .ok (.if_icmp .ne 7, 3) := by rw [mC_12]; decide +kernel
theorem d12_31 : decode (mC 12) 31 = .ok (.iconst 1, 1) := by rw [mC_12]; decide +kernel
theorem d12_32 : decode (mC 12) 32 = .ok (.goto 4, 3) := by rw [mC_12]; decide +kernel
theorem d12_35 : decode (mC 12) 35 = .ok (.iconst 0, 1) := by rw [mC_12]; decide +kernel
theorem d12_36 : decode (mC 12) 36 = .ok (.istore_n 2, 1) := by rw [mC_12]; decide +kernel
theorem d12_37 : decode (mC 12) 37 = .ok (.iload_n 2, 1) := by rw [mC_12]; decide +kernel
theorem d12_38 : decode (mC 12) 38 = .ok (.ifCond .eq 12, 3) := by rw [mC_12]; decide +kernel
theorem d12_41 : decode (mC 12) 41 = .ok (.aload_n 0, 1) := by rw [mC_12]; decide +kernel
theorem d12_42 : decode (mC 12) 42 = .ok (.bipush 48, 2) := by rw [mC_12]; decide +kernel
theorem d12_44 : decode (mC 12) 44 = .ok (.iload 4, 2) := by rw [mC_12]; decide +kernel
theorem d12_46 : decode (mC 12) 46 = .ok (.iadd, 1) := by rw [mC_12]; decide +kernel
theorem d12_47 : decode (mC 12) 47 = .ok (.invokevirtual 24, 3) := by rw [mC_12]; decide +kernel
theorem d12_50 : decode (mC 12) 50 = .ok (.iload_n 3, 1) := by rw [mC_12]; decide +kernel
theorem d12_51 : decode (mC 12) 51 = .ok (.bipush 10, 2) := by rw [mC_12]; decide +kernel
theorem d12_53 : decode (mC 12) 53 = .ok (.idiv, 1) := by rw [mC_12]; decide +kernel
theorem d12_54 : decode (mC 12) 54 = .ok (.istore_n 3, 1) := by rw [mC_12]; decide +kernel
theorem d12_55 : decode (mC 12) 55 = .ok (.goto (-50), 3) := by rw [mC_12]; decide +kernel
theorem d12_58 : decode (mC 12) 58 = .ok (.return_, 1) := by rw [mC_12]; decide +kernel
theorem s12_0 {S : Nat × (Nat → Int32)} {L : List (Option Value)} {st : List Value} {n : Nat} {Q : xQ} {μ : xM}  (h : x_V S 12 1 L (.int (I 0) :: st) μ n Q) : x_V S 12 0 L (st) μ n Q := x_iconst (by decide +kernel) d12_0 h
theorem s12_1 {S : Nat × (Nat → Int32)} {L : List (Option Value)} {st : List Value} {n : Nat} {Q : xQ} {μ : xM} {x : Int32} (h : x_V S 12 2 (L.set 2 (some (.int x))) (st) μ n Q) : x_V S 12 1 L (.int x :: st) μ n Q := x_istore_n d12_1 (by decide) h
theorem s12_2 {S : Nat × (Nat → Int32)} {L : List (Option Value)} {st : List Value} {n : Nat} {Q : xQ} {μ : xM}  (h : x_V S 12 4 L (.int (I 100000) :: st) μ n Q) : x_V S 12 2 L (st) μ n Q := x_ldc (v := I 100000) d12_2 (by rw [show I 100000 = (100000 : Int32) from by decide +kernel]; exact w388) h
theorem s12_4 {S : Nat × (Nat → Int32)} {L : List (Option Value)} {st : List Value} {n : Nat} {Q : xQ} {μ : xM} {x : Int32} (h : x_V S 12 5 (L.set 3 (some (.int x))) (st) μ n Q) : x_V S 12 4 L (.int x :: st) μ n Q := x_istore_n d12_4 (by decide) h
theorem s12_5 {S : Nat × (Nat → Int32)} {L : List (Option Value)} {st : List Value} {n : Nat} {Q : xQ} {μ : xM} {x : Int32} (hl : L[3]? = some (some (.int x))) (h : x_V S 12 6 L (.int x :: st) μ n Q) : x_V S 12 5 L (st) μ n Q := x_iload_n d12_5 hl h
theorem s12_6 {S : Nat × (Nat → Int32)} {L : List (Option Value)} {st : List Value} {n : Nat} {Q : xQ} {μ : xM} {x : Int} (hx : ib x) (kt : x ≤ 0 → x_V S 12 58 L (st) μ n Q) (kf : 0 < x → x_V S 12 9 L (st) μ n Q) : x_V S 12 6 L (.int (I x) :: st) μ n Q := v_if_le d12_6 (by decide) hx kt kf
theorem s12_9 {S : Nat × (Nat → Int32)} {L : List (Option Value)} {st : List Value} {n : Nat} {Q : xQ} {μ : xM} {x : Int32} (hl : L[1]? = some (some (.int x))) (h : x_V S 12 10 L (.int x :: st) μ n Q) : x_V S 12 9 L (st) μ n Q := x_iload_n d12_9 hl h
theorem s12_10 {S : Nat × (Nat → Int32)} {L : List (Option Value)} {st : List Value} {n : Nat} {Q : xQ} {μ : xM} {x : Int32} (hl : L[3]? = some (some (.int x))) (h : x_V S 12 11 L (.int x :: st) μ n Q) : x_V S 12 10 L (st) μ n Q := x_iload_n d12_10 hl h
theorem s12_11 {S : Nat × (Nat → Int32)} {L : List (Option Value)} {st : List Value} {n : Nat} {Q : xQ} {μ : xM} {x y : Int} (hx : ib x) (hy : ib y) (hx0 : 0 ≤ x) (hy0 : 0 < y) (h : x_V S 12 12 L (.int (I (x / y)) :: st) μ n Q) : x_V S 12 11 L (.int (I y) :: .int (I x) :: st) μ n Q := v_idiv d12_11 hx hy hx0 hy0 h
theorem s12_12 {S : Nat × (Nat → Int32)} {L : List (Option Value)} {st : List Value} {n : Nat} {Q : xQ} {μ : xM}  (h : x_V S 12 14 L (.int (I 10) :: st) μ n Q) : x_V S 12 12 L (st) μ n Q := x_bipush (by decide +kernel) d12_12 h
theorem s12_14 {S : Nat × (Nat → Int32)} {L : List (Option Value)} {st : List Value} {n : Nat} {Q : xQ} {μ : xM} {x y : Int} (hx : ib x) (hy : ib y) (hx0 : 0 ≤ x) (hy0 : 0 < y) (h : x_V S 12 15 L (.int (I (x % y)) :: st) μ n Q) : x_V S 12 14 L (.int (I y) :: .int (I x) :: st) μ n Q := v_irem d12_14 hx hy hx0 hy0 h
theorem s12_15 {S : Nat × (Nat → Int32)} {L : List (Option Value)} {st : List Value} {n : Nat} {Q : xQ} {μ : xM} {x : Int32} (h : x_V S 12 17 (L.set 4 (some (.int x))) (st) μ n Q) : x_V S 12 15 L (.int x :: st) μ n Q := x_istore d12_15 (by decide) h
theorem s12_17 {S : Nat × (Nat → Int32)} {L : List (Option Value)} {st : List Value} {n : Nat} {Q : xQ} {μ : xM} {x : Int32} (hl : L[2]? = some (some (.int x))) (h : x_V S 12 18 L (.int x :: st) μ n Q) : x_V S 12 17 L (st) μ n Q := x_iload_n d12_17 hl h
theorem s12_18 {S : Nat × (Nat → Int32)} {L : List (Option Value)} {st : List Value} {n : Nat} {Q : xQ} {μ : xM} {x : Int} (hx : ib x) (kt : x ≠ 0 → x_V S 12 31 L (st) μ n Q) (kf : x = 0 → x_V S 12 21 L (st) μ n Q) : x_V S 12 18 L (.int (I x) :: st) μ n Q := v_if_ne d12_18 (by decide) hx kt kf
theorem s12_21 {S : Nat × (Nat → Int32)} {L : List (Option Value)} {st : List Value} {n : Nat} {Q : xQ} {μ : xM} {x : Int32} (hl : L[4]? = some (some (.int x))) (h : x_V S 12 23 L (.int x :: st) μ n Q) : x_V S 12 21 L (st) μ n Q := x_iload d12_21 hl h
theorem s12_23 {S : Nat × (Nat → Int32)} {L : List (Option Value)} {st : List Value} {n : Nat} {Q : xQ} {μ : xM} {x : Int} (hx : ib x) (kt : x ≠ 0 → x_V S 12 31 L (st) μ n Q) (kf : x = 0 → x_V S 12 26 L (st) μ n Q) : x_V S 12 23 L (.int (I x) :: st) μ n Q := v_if_ne d12_23 (by decide) hx kt kf
theorem s12_26 {S : Nat × (Nat → Int32)} {L : List (Option Value)} {st : List Value} {n : Nat} {Q : xQ} {μ : xM} {x : Int32} (hl : L[3]? = some (some (.int x))) (h : x_V S 12 27 L (.int x :: st) μ n Q) : x_V S 12 26 L (st) μ n Q := x_iload_n d12_26 hl h
theorem s12_27 {S : Nat × (Nat → Int32)} {L : List (Option Value)} {st : List Value} {n : Nat} {Q : xQ} {μ : xM}  (h : x_V S 12 28 L (.int (I 1) :: st) μ n Q) : x_V S 12 27 L (st) μ n Q := x_iconst (by decide +kernel) d12_27 h
theorem s12_28 {S : Nat × (Nat → Int32)} {L : List (Option Value)} {st : List Value} {n : Nat} {Q : xQ} {μ : xM} {x y : Int} (hx : ib x) (hy : ib y) (kt : x ≠ y → x_V S 12 35 L (st) μ n Q) (kf : x = y → x_V S 12 31 L (st) μ n Q) : x_V S 12 28 L (.int (I y) :: .int (I x) :: st) μ n Q := v_icmp_ne d12_28 (by decide) hx hy kt kf
theorem s12_31 {S : Nat × (Nat → Int32)} {L : List (Option Value)} {st : List Value} {n : Nat} {Q : xQ} {μ : xM}  (h : x_V S 12 32 L (.int (I 1) :: st) μ n Q) : x_V S 12 31 L (st) μ n Q := x_iconst (by decide +kernel) d12_31 h
theorem s12_32 {S : Nat × (Nat → Int32)} {L : List (Option Value)} {st : List Value} {n : Nat} {Q : xQ} {μ : xM}  (h : x_V S 12 36 L (st) μ n Q) : x_V S 12 32 L (st) μ n Q := x_goto (tgt := 36) (by decide) d12_32 h
theorem s12_35 {S : Nat × (Nat → Int32)} {L : List (Option Value)} {st : List Value} {n : Nat} {Q : xQ} {μ : xM}  (h : x_V S 12 36 L (.int (I 0) :: st) μ n Q) : x_V S 12 35 L (st) μ n Q := x_iconst (by decide +kernel) d12_35 h
theorem s12_36 {S : Nat × (Nat → Int32)} {L : List (Option Value)} {st : List Value} {n : Nat} {Q : xQ} {μ : xM} {x : Int32} (h : x_V S 12 37 (L.set 2 (some (.int x))) (st) μ n Q) : x_V S 12 36 L (.int x :: st) μ n Q := x_istore_n d12_36 (by decide) h
theorem s12_37 {S : Nat × (Nat → Int32)} {L : List (Option Value)} {st : List Value} {n : Nat} {Q : xQ} {μ : xM} {x : Int32} (hl : L[2]? = some (some (.int x))) (h : x_V S 12 38 L (.int x :: st) μ n Q) : x_V S 12 37 L (st) μ n Q := x_iload_n d12_37 hl h
theorem s12_38 {S : Nat × (Nat → Int32)} {L : List (Option Value)} {st : List Value} {n : Nat} {Q : xQ} {μ : xM} {x : Int} (hx : ib x) (kt : x = 0 → x_V S 12 50 L (st) μ n Q) (kf : x ≠ 0 → x_V S 12 41 L (st) μ n Q) : x_V S 12 38 L (.int (I x) :: st) μ n Q := v_if_eq d12_38 (by decide) hx kt kf
theorem s12_41 {S : Nat × (Nat → Int32)} {L : List (Option Value)} {st : List Value} {n : Nat} {Q : xQ} {μ : xM} {a : Nat} (hl : L[0]? = some (some (.ref a))) (h : x_V S 12 42 L (.ref a :: st) μ n Q) : x_V S 12 41 L (st) μ n Q := x_aload_n d12_41 hl h
theorem s12_41N {S : Nat × (Nat → Int32)} {L : List (Option Value)} {st : List Value} {n : Nat} {Q : xQ} {μ : xM} (hl : L[0]? = some (some .null)) (h : x_V S 12 42 L (.null :: st) μ n Q) : x_V S 12 41 L st μ n Q := x_aload_nN d12_41 hl h
theorem s12_42 {S : Nat × (Nat → Int32)} {L : List (Option Value)} {st : List Value} {n : Nat} {Q : xQ} {μ : xM}  (h : x_V S 12 44 L (.int (I 48) :: st) μ n Q) : x_V S 12 42 L (st) μ n Q := x_bipush (by decide +kernel) d12_42 h
theorem s12_44 {S : Nat × (Nat → Int32)} {L : List (Option Value)} {st : List Value} {n : Nat} {Q : xQ} {μ : xM} {x : Int32} (hl : L[4]? = some (some (.int x))) (h : x_V S 12 46 L (.int x :: st) μ n Q) : x_V S 12 44 L (st) μ n Q := x_iload d12_44 hl h
theorem s12_46 {S : Nat × (Nat → Int32)} {L : List (Option Value)} {st : List Value} {n : Nat} {Q : xQ} {μ : xM} {x y : Int} (h : x_V S 12 47 L (.int (I (x + y)) :: st) μ n Q) : x_V S 12 46 L (.int (I y) :: .int (I x) :: st) μ n Q := v_iadd d12_46 h
theorem s12_47 {S : Nat × (Nat → Int32)} {L : List (Option Value)} {st : List Value} {n : Nat} {Q : xQ} {μ : xM} {x0 : Int32} {a : Nat} (hs : x_sh a = (2, 2)) (hst : st.length ≤ 4) (h : x_V S 11 0 [some (.ref a), some (.int x0)] [] μ n (x_bk S 12 47 L st Q)) : x_V S 12 47 L (.int x0 :: .ref a :: st) μ n Q := x_callV (k' := 11) (as := [.int x0]) (na := 1) d12_47 ⟨w392, by decide +kernel, by decide, by decide, by decide, by decide, by decide⟩ cf2 w389 w390 w391 (by decide +kernel) rfl hs (fun v hv => by
    simp only [List.mem_cons, List.not_mem_nil, or_false] at hv
    rcases hv with rfl <;> first | rfl | assumption) hst h
theorem s12_50 {S : Nat × (Nat → Int32)} {L : List (Option Value)} {st : List Value} {n : Nat} {Q : xQ} {μ : xM} {x : Int32} (hl : L[3]? = some (some (.int x))) (h : x_V S 12 51 L (.int x :: st) μ n Q) : x_V S 12 50 L (st) μ n Q := x_iload_n d12_50 hl h
theorem s12_51 {S : Nat × (Nat → Int32)} {L : List (Option Value)} {st : List Value} {n : Nat} {Q : xQ} {μ : xM}  (h : x_V S 12 53 L (.int (I 10) :: st) μ n Q) : x_V S 12 51 L (st) μ n Q := x_bipush (by decide +kernel) d12_51 h
theorem s12_53 {S : Nat × (Nat → Int32)} {L : List (Option Value)} {st : List Value} {n : Nat} {Q : xQ} {μ : xM} {x y : Int} (hx : ib x) (hy : ib y) (hx0 : 0 ≤ x) (hy0 : 0 < y) (h : x_V S 12 54 L (.int (I (x / y)) :: st) μ n Q) : x_V S 12 53 L (.int (I y) :: .int (I x) :: st) μ n Q := v_idiv d12_53 hx hy hx0 hy0 h
theorem s12_54 {S : Nat × (Nat → Int32)} {L : List (Option Value)} {st : List Value} {n : Nat} {Q : xQ} {μ : xM} {x : Int32} (h : x_V S 12 55 (L.set 3 (some (.int x))) (st) μ n Q) : x_V S 12 54 L (.int x :: st) μ n Q := x_istore_n d12_54 (by decide) h
theorem s12_55 {S : Nat × (Nat → Int32)} {L : List (Option Value)} {st : List Value} {n : Nat} {Q : xQ} {μ : xM}  (h : x_V S 12 5 L (st) μ n Q) : x_V S 12 55 L (st) μ n Q := x_goto (tgt := 5) (by decide) d12_55 h
theorem s12_58 {S : Nat × (Nat → Int32)} {L : List (Option Value)} {st : List Value} {n : Nat} {Q : xQ} {μ : xM}  (h : Q (.inl none) μ n) : x_V S 12 58 L ([]) μ n Q := x_return d12_58 rfl h
theorem mC_13 : mC 13 = prog_8_method_9_code := rfl
theorem d13_0 : decode (mC 13) 0 = .ok (.aload_n 0, 1) := by rw [mC_13]; decide +kernel
theorem d13_1 : decode (mC 13) 1 = .ok (.iload_n 1, 1) := by rw [mC_13]; decide +kernel
theorem d13_2 : decode (mC 13) 2 = .ok (.invokevirtual 28, 3) := by rw [mC_13]; decide +kernel
theorem d13_5 : decode (mC 13) 5 = .ok (.aload_n 0, 1) := by rw [mC_13]; decide +kernel
theorem d13_6 : decode (mC 13) 6 = .ok (.bipush 61, 2) := by rw [mC_13]; decide +kernel
theorem d13_8 : decode (mC 13) 8 = .ok (.invokevirtual 24, 3) := by rw [mC_13]; decide +kernel
theorem d13_11 : decode (mC 13) 11 = .ok (.aload_n 0, 1) := by rw [mC_13]; decide +kernel
theorem d13_12 : decode (mC 13) 12 = .ok (.iload_n 2, 1) := by rw [mC_13]; decide +kernel
theorem d13_13 : decode (mC 13) 13 = .ok (.invokevirtual 28, 3) := by rw [mC_13]; decide +kernel
theorem d13_16 : decode (mC 13) 16 = .ok (.aload_n 0, 1) := by rw [mC_13]; decide +kernel
theorem d13_17 : decode (mC 13) 17 = .ok (.iconst 1, 1) := by rw [mC_13]; decide +kernel
theorem d13_18 : decode (mC 13) 18 = .ok (.invokevirtual 24, 3) := by rw [mC_13]; decide +kernel
theorem d13_21 : decode (mC 13) 21 = .ok (.return_, 1) := by rw [mC_13]; decide +kernel
theorem s13_0 {S : Nat × (Nat → Int32)} {L : List (Option Value)} {st : List Value} {n : Nat} {Q : xQ} {μ : xM} {a : Nat} (hl : L[0]? = some (some (.ref a))) (h : x_V S 13 1 L (.ref a :: st) μ n Q) : x_V S 13 0 L (st) μ n Q := x_aload_n d13_0 hl h
theorem s13_0N {S : Nat × (Nat → Int32)} {L : List (Option Value)} {st : List Value} {n : Nat} {Q : xQ} {μ : xM} (hl : L[0]? = some (some .null)) (h : x_V S 13 1 L (.null :: st) μ n Q) : x_V S 13 0 L st μ n Q := x_aload_nN d13_0 hl h
theorem s13_1 {S : Nat × (Nat → Int32)} {L : List (Option Value)} {st : List Value} {n : Nat} {Q : xQ} {μ : xM} {x : Int32} (hl : L[1]? = some (some (.int x))) (h : x_V S 13 2 L (.int x :: st) μ n Q) : x_V S 13 1 L (st) μ n Q := x_iload_n d13_1 hl h
theorem s13_2 {S : Nat × (Nat → Int32)} {L : List (Option Value)} {st : List Value} {n : Nat} {Q : xQ} {μ : xM} {x0 : Int32} {a : Nat} (hs : x_sh a = (2, 2)) (hst : st.length ≤ 4) (h : x_V S 12 0 [some (.ref a), some (.int x0), none, none, none] [] μ n (x_bk S 13 2 L st Q)) : x_V S 13 2 L (.int x0 :: .ref a :: st) μ n Q := x_callV (k' := 12) (as := [.int x0]) (na := 1) d13_2 ⟨w387, by decide +kernel, by decide, by decide, by decide, by decide, by decide⟩ cf2 w384 w385 w386 (by decide +kernel) rfl hs (fun v hv => by
    simp only [List.mem_cons, List.not_mem_nil, or_false] at hv
    rcases hv with rfl <;> first | rfl | assumption) hst h
theorem s13_5 {S : Nat × (Nat → Int32)} {L : List (Option Value)} {st : List Value} {n : Nat} {Q : xQ} {μ : xM} {a : Nat} (hl : L[0]? = some (some (.ref a))) (h : x_V S 13 6 L (.ref a :: st) μ n Q) : x_V S 13 5 L (st) μ n Q := x_aload_n d13_5 hl h
theorem s13_5N {S : Nat × (Nat → Int32)} {L : List (Option Value)} {st : List Value} {n : Nat} {Q : xQ} {μ : xM} (hl : L[0]? = some (some .null)) (h : x_V S 13 6 L (.null :: st) μ n Q) : x_V S 13 5 L st μ n Q := x_aload_nN d13_5 hl h
theorem s13_6 {S : Nat × (Nat → Int32)} {L : List (Option Value)} {st : List Value} {n : Nat} {Q : xQ} {μ : xM}  (h : x_V S 13 8 L (.int (I 61) :: st) μ n Q) : x_V S 13 6 L (st) μ n Q := x_bipush (by decide +kernel) d13_6 h
theorem s13_8 {S : Nat × (Nat → Int32)} {L : List (Option Value)} {st : List Value} {n : Nat} {Q : xQ} {μ : xM} {x0 : Int32} {a : Nat} (hs : x_sh a = (2, 2)) (hst : st.length ≤ 4) (h : x_V S 11 0 [some (.ref a), some (.int x0)] [] μ n (x_bk S 13 8 L st Q)) : x_V S 13 8 L (.int x0 :: .ref a :: st) μ n Q := x_callV (k' := 11) (as := [.int x0]) (na := 1) d13_8 ⟨w392, by decide +kernel, by decide, by decide, by decide, by decide, by decide⟩ cf2 w389 w390 w391 (by decide +kernel) rfl hs (fun v hv => by
    simp only [List.mem_cons, List.not_mem_nil, or_false] at hv
    rcases hv with rfl <;> first | rfl | assumption) hst h
theorem s13_11 {S : Nat × (Nat → Int32)} {L : List (Option Value)} {st : List Value} {n : Nat} {Q : xQ} {μ : xM} {a : Nat} (hl : L[0]? = some (some (.ref a))) (h : x_V S 13 12 L (.ref a :: st) μ n Q) : x_V S 13 11 L (st) μ n Q := x_aload_n d13_11 hl h
theorem s13_11N {S : Nat × (Nat → Int32)} {L : List (Option Value)} {st : List Value} {n : Nat} {Q : xQ} {μ : xM} (hl : L[0]? = some (some .null)) (h : x_V S 13 12 L (.null :: st) μ n Q) : x_V S 13 11 L st μ n Q := x_aload_nN d13_11 hl h
theorem s13_12 {S : Nat × (Nat → Int32)} {L : List (Option Value)} {st : List Value} {n : Nat} {Q : xQ} {μ : xM} {x : Int32} (hl : L[2]? = some (some (.int x))) (h : x_V S 13 13 L (.int x :: st) μ n Q) : x_V S 13 12 L (st) μ n Q := x_iload_n d13_12 hl h
theorem s13_13 {S : Nat × (Nat → Int32)} {L : List (Option Value)} {st : List Value} {n : Nat} {Q : xQ} {μ : xM} {x0 : Int32} {a : Nat} (hs : x_sh a = (2, 2)) (hst : st.length ≤ 4) (h : x_V S 12 0 [some (.ref a), some (.int x0), none, none, none] [] μ n (x_bk S 13 13 L st Q)) : x_V S 13 13 L (.int x0 :: .ref a :: st) μ n Q := x_callV (k' := 12) (as := [.int x0]) (na := 1) d13_13 ⟨w387, by decide +kernel, by decide, by decide, by decide, by decide, by decide⟩ cf2 w384 w385 w386 (by decide +kernel) rfl hs (fun v hv => by
    simp only [List.mem_cons, List.not_mem_nil, or_false] at hv
    rcases hv with rfl <;> first | rfl | assumption) hst h
theorem s13_16 {S : Nat × (Nat → Int32)} {L : List (Option Value)} {st : List Value} {n : Nat} {Q : xQ} {μ : xM} {a : Nat} (hl : L[0]? = some (some (.ref a))) (h : x_V S 13 17 L (.ref a :: st) μ n Q) : x_V S 13 16 L (st) μ n Q := x_aload_n d13_16 hl h
theorem s13_16N {S : Nat × (Nat → Int32)} {L : List (Option Value)} {st : List Value} {n : Nat} {Q : xQ} {μ : xM} (hl : L[0]? = some (some .null)) (h : x_V S 13 17 L (.null :: st) μ n Q) : x_V S 13 16 L st μ n Q := x_aload_nN d13_16 hl h
theorem s13_17 {S : Nat × (Nat → Int32)} {L : List (Option Value)} {st : List Value} {n : Nat} {Q : xQ} {μ : xM}  (h : x_V S 13 18 L (.int (I 1) :: st) μ n Q) : x_V S 13 17 L (st) μ n Q := x_iconst (by decide +kernel) d13_17 h
theorem s13_18 {S : Nat × (Nat → Int32)} {L : List (Option Value)} {st : List Value} {n : Nat} {Q : xQ} {μ : xM} {x0 : Int32} {a : Nat} (hs : x_sh a = (2, 2)) (hst : st.length ≤ 4) (h : x_V S 11 0 [some (.ref a), some (.int x0)] [] μ n (x_bk S 13 18 L st Q)) : x_V S 13 18 L (.int x0 :: .ref a :: st) μ n Q := x_callV (k' := 11) (as := [.int x0]) (na := 1) d13_18 ⟨w392, by decide +kernel, by decide, by decide, by decide, by decide, by decide⟩ cf2 w389 w390 w391 (by decide +kernel) rfl hs (fun v hv => by
    simp only [List.mem_cons, List.not_mem_nil, or_false] at hv
    rcases hv with rfl <;> first | rfl | assumption) hst h
theorem s13_21 {S : Nat × (Nat → Int32)} {L : List (Option Value)} {st : List Value} {n : Nat} {Q : xQ} {μ : xM}  (h : Q (.inl none) μ n) : x_V S 13 21 L ([]) μ n Q := x_return d13_21 rfl h
theorem mC_14 : mC 14 = prog_8_method_10_code := rfl
theorem d14_0 : decode (mC 14) 0 = .ok (.aload_n 0, 1) := by rw [mC_14]; decide +kernel
theorem d14_1 : decode (mC 14) 1 = .ok (.iload_n 1, 1) := by rw [mC_14]; decide +kernel
theorem d14_2 : decode (mC 14) 2 = .ok (.invokevirtual 28, 3) := by rw [mC_14]; decide +kernel
theorem d14_5 : decode (mC 14) 5 = .ok (.aload_n 0, 1) := by rw [mC_14]; decide +kernel
theorem d14_6 : decode (mC 14) 6 = .ok (.bipush 61, 2) := by rw [mC_14]; decide +kernel
theorem d14_8 : decode (mC 14) 8 = .ok (.invokevirtual 24, 3) := by rw [mC_14]; decide +kernel
theorem d14_11 : decode (mC 14) 11 = .ok (.aload_n 0, 1) := by rw [mC_14]; decide +kernel
theorem d14_12 : decode (mC 14) 12 = .ok (.iload_n 2, 1) := by rw [mC_14]; decide +kernel
theorem d14_13 : decode (mC 14) 13 = .ok (.invokevirtual 24, 3) := by rw [mC_14]; decide +kernel
theorem d14_16 : decode (mC 14) 16 = .ok (.aload_n 0, 1) := by rw [mC_14]; decide +kernel
theorem d14_17 : decode (mC 14) 17 = .ok (.iconst 1, 1) := by rw [mC_14]; decide +kernel
theorem d14_18 : decode (mC 14) 18 = .ok (.invokevirtual 24, 3) := by rw [mC_14]; decide +kernel
theorem d14_21 : decode (mC 14) 21 = .ok (.return_, 1) := by rw [mC_14]; decide +kernel
theorem s14_0 {S : Nat × (Nat → Int32)} {L : List (Option Value)} {st : List Value} {n : Nat} {Q : xQ} {μ : xM} {a : Nat} (hl : L[0]? = some (some (.ref a))) (h : x_V S 14 1 L (.ref a :: st) μ n Q) : x_V S 14 0 L (st) μ n Q := x_aload_n d14_0 hl h
theorem s14_0N {S : Nat × (Nat → Int32)} {L : List (Option Value)} {st : List Value} {n : Nat} {Q : xQ} {μ : xM} (hl : L[0]? = some (some .null)) (h : x_V S 14 1 L (.null :: st) μ n Q) : x_V S 14 0 L st μ n Q := x_aload_nN d14_0 hl h
theorem s14_1 {S : Nat × (Nat → Int32)} {L : List (Option Value)} {st : List Value} {n : Nat} {Q : xQ} {μ : xM} {x : Int32} (hl : L[1]? = some (some (.int x))) (h : x_V S 14 2 L (.int x :: st) μ n Q) : x_V S 14 1 L (st) μ n Q := x_iload_n d14_1 hl h
theorem s14_2 {S : Nat × (Nat → Int32)} {L : List (Option Value)} {st : List Value} {n : Nat} {Q : xQ} {μ : xM} {x0 : Int32} {a : Nat} (hs : x_sh a = (2, 2)) (hst : st.length ≤ 4) (h : x_V S 12 0 [some (.ref a), some (.int x0), none, none, none] [] μ n (x_bk S 14 2 L st Q)) : x_V S 14 2 L (.int x0 :: .ref a :: st) μ n Q := x_callV (k' := 12) (as := [.int x0]) (na := 1) d14_2 ⟨w387, by decide +kernel, by decide, by decide, by decide, by decide, by decide⟩ cf2 w384 w385 w386 (by decide +kernel) rfl hs (fun v hv => by
    simp only [List.mem_cons, List.not_mem_nil, or_false] at hv
    rcases hv with rfl <;> first | rfl | assumption) hst h
theorem s14_5 {S : Nat × (Nat → Int32)} {L : List (Option Value)} {st : List Value} {n : Nat} {Q : xQ} {μ : xM} {a : Nat} (hl : L[0]? = some (some (.ref a))) (h : x_V S 14 6 L (.ref a :: st) μ n Q) : x_V S 14 5 L (st) μ n Q := x_aload_n d14_5 hl h
theorem s14_5N {S : Nat × (Nat → Int32)} {L : List (Option Value)} {st : List Value} {n : Nat} {Q : xQ} {μ : xM} (hl : L[0]? = some (some .null)) (h : x_V S 14 6 L (.null :: st) μ n Q) : x_V S 14 5 L st μ n Q := x_aload_nN d14_5 hl h
theorem s14_6 {S : Nat × (Nat → Int32)} {L : List (Option Value)} {st : List Value} {n : Nat} {Q : xQ} {μ : xM}  (h : x_V S 14 8 L (.int (I 61) :: st) μ n Q) : x_V S 14 6 L (st) μ n Q := x_bipush (by decide +kernel) d14_6 h
theorem s14_8 {S : Nat × (Nat → Int32)} {L : List (Option Value)} {st : List Value} {n : Nat} {Q : xQ} {μ : xM} {x0 : Int32} {a : Nat} (hs : x_sh a = (2, 2)) (hst : st.length ≤ 4) (h : x_V S 11 0 [some (.ref a), some (.int x0)] [] μ n (x_bk S 14 8 L st Q)) : x_V S 14 8 L (.int x0 :: .ref a :: st) μ n Q := x_callV (k' := 11) (as := [.int x0]) (na := 1) d14_8 ⟨w392, by decide +kernel, by decide, by decide, by decide, by decide, by decide⟩ cf2 w389 w390 w391 (by decide +kernel) rfl hs (fun v hv => by
    simp only [List.mem_cons, List.not_mem_nil, or_false] at hv
    rcases hv with rfl <;> first | rfl | assumption) hst h
theorem s14_11 {S : Nat × (Nat → Int32)} {L : List (Option Value)} {st : List Value} {n : Nat} {Q : xQ} {μ : xM} {a : Nat} (hl : L[0]? = some (some (.ref a))) (h : x_V S 14 12 L (.ref a :: st) μ n Q) : x_V S 14 11 L (st) μ n Q := x_aload_n d14_11 hl h
theorem s14_11N {S : Nat × (Nat → Int32)} {L : List (Option Value)} {st : List Value} {n : Nat} {Q : xQ} {μ : xM} (hl : L[0]? = some (some .null)) (h : x_V S 14 12 L (.null :: st) μ n Q) : x_V S 14 11 L st μ n Q := x_aload_nN d14_11 hl h
theorem s14_12 {S : Nat × (Nat → Int32)} {L : List (Option Value)} {st : List Value} {n : Nat} {Q : xQ} {μ : xM} {x : Int32} (hl : L[2]? = some (some (.int x))) (h : x_V S 14 13 L (.int x :: st) μ n Q) : x_V S 14 12 L (st) μ n Q := x_iload_n d14_12 hl h
theorem s14_13 {S : Nat × (Nat → Int32)} {L : List (Option Value)} {st : List Value} {n : Nat} {Q : xQ} {μ : xM} {x0 : Int32} {a : Nat} (hs : x_sh a = (2, 2)) (hst : st.length ≤ 4) (h : x_V S 11 0 [some (.ref a), some (.int x0)] [] μ n (x_bk S 14 13 L st Q)) : x_V S 14 13 L (.int x0 :: .ref a :: st) μ n Q := x_callV (k' := 11) (as := [.int x0]) (na := 1) d14_13 ⟨w392, by decide +kernel, by decide, by decide, by decide, by decide, by decide⟩ cf2 w389 w390 w391 (by decide +kernel) rfl hs (fun v hv => by
    simp only [List.mem_cons, List.not_mem_nil, or_false] at hv
    rcases hv with rfl <;> first | rfl | assumption) hst h
theorem s14_16 {S : Nat × (Nat → Int32)} {L : List (Option Value)} {st : List Value} {n : Nat} {Q : xQ} {μ : xM} {a : Nat} (hl : L[0]? = some (some (.ref a))) (h : x_V S 14 17 L (.ref a :: st) μ n Q) : x_V S 14 16 L (st) μ n Q := x_aload_n d14_16 hl h
theorem s14_16N {S : Nat × (Nat → Int32)} {L : List (Option Value)} {st : List Value} {n : Nat} {Q : xQ} {μ : xM} (hl : L[0]? = some (some .null)) (h : x_V S 14 17 L (.null :: st) μ n Q) : x_V S 14 16 L st μ n Q := x_aload_nN d14_16 hl h
theorem s14_17 {S : Nat × (Nat → Int32)} {L : List (Option Value)} {st : List Value} {n : Nat} {Q : xQ} {μ : xM}  (h : x_V S 14 18 L (.int (I 1) :: st) μ n Q) : x_V S 14 17 L (st) μ n Q := x_iconst (by decide +kernel) d14_17 h
theorem s14_18 {S : Nat × (Nat → Int32)} {L : List (Option Value)} {st : List Value} {n : Nat} {Q : xQ} {μ : xM} {x0 : Int32} {a : Nat} (hs : x_sh a = (2, 2)) (hst : st.length ≤ 4) (h : x_V S 11 0 [some (.ref a), some (.int x0)] [] μ n (x_bk S 14 18 L st Q)) : x_V S 14 18 L (.int x0 :: .ref a :: st) μ n Q := x_callV (k' := 11) (as := [.int x0]) (na := 1) d14_18 ⟨w392, by decide +kernel, by decide, by decide, by decide, by decide, by decide⟩ cf2 w389 w390 w391 (by decide +kernel) rfl hs (fun v hv => by
    simp only [List.mem_cons, List.not_mem_nil, or_false] at hv
    rcases hv with rfl <;> first | rfl | assumption) hst h
theorem s14_21 {S : Nat × (Nat → Int32)} {L : List (Option Value)} {st : List Value} {n : Nat} {Q : xQ} {μ : xM}  (h : Q (.inl none) μ n) : x_V S 14 21 L ([]) μ n Q := x_return d14_21 rfl h
theorem mC_15 : mC 15 = prog_8_method_11_code := rfl
theorem d15_0 : decode (mC 15) 0 = .ok (.aload_n 0, 1) := by rw [mC_15]; decide +kernel
theorem d15_1 : decode (mC 15) 1 = .ok (.aload_n 0, 1) := by rw [mC_15]; decide +kernel
theorem d15_2 : decode (mC 15) 2 = .ok (.getfield 15, 3) := by rw [mC_15]; decide +kernel
theorem d15_5 : decode (mC 15) 5 = .ok (.invokevirtual 31, 3) := by rw [mC_15]; decide +kernel
theorem d15_8 : decode (mC 15) 8 = .ok (.istore_n 1, 1) := by rw [mC_15]; decide +kernel
theorem d15_9 : decode (mC 15) 9 = .ok (.aload_n 0, 1) := by rw [mC_15]; decide +kernel
theorem d15_10 : decode (mC 15) 10 = .ok (.bipush 10, 2) := by rw [mC_15]; decide +kernel
theorem d15_12 : decode (mC 15) 12 = .ok (.invokevirtual 28, 3) := by rw [mC_15]; decide +kernel
theorem d15_15 : decode (mC 15) 15 = .ok (.aload_n 0, 1) := by rw [mC_15]; decide +kernel
theorem d15_16 : decode (mC 15) 16 = .ok (.bipush 61, 2) := by rw [mC_15]; decide +kernel
theorem d15_18 : decode (mC 15) 18 = .ok (.invokevirtual 24, 3) := by rw [mC_15]; decide +kernel
theorem d15_21 : decode (mC 15) 21 = .ok (.aload_n 0, 1) := by rw [mC_15]; decide +kernel
theorem d15_22 : decode (mC 15) 22 = .ok (.bipush 48, 2) := by rw [mC_15]; decide +kernel
theorem d15_24 : decode (mC 15) 24 = .ok (.iload_n 1, 1) := by rw [mC_15]; decide +kernel
theorem d15_25 : decode (mC 15) 25 = .ok (.bipush 100, 2) := by rw [mC_15]; decide +kernel
theorem d15_27 : decode (mC 15) 27 = .ok (.idiv, 1) := by rw [mC_15]; decide +kernel
theorem d15_28 : decode (mC 15) 28 = .ok (.iadd, 1) := by rw [mC_15]; decide +kernel
theorem d15_29 : decode (mC 15) 29 = .ok (.invokevirtual 24, 3) := by rw [mC_15]; decide +kernel
theorem d15_32 : decode (mC 15) 32 = .ok (.aload_n 0, 1) := by rw [mC_15]; decide +kernel
theorem d15_33 : decode (mC 15) 33 = .ok (.bipush 48, 2) := by rw [mC_15]; decide +kernel
theorem d15_35 : decode (mC 15) 35 = .ok (.iload_n 1, 1) := by rw [mC_15]; decide +kernel
theorem d15_36 : decode (mC 15) 36 = .ok (.bipush 10, 2) := by rw [mC_15]; decide +kernel
theorem d15_38 : decode (mC 15) 38 = .ok (.idiv, 1) := by rw [mC_15]; decide +kernel
theorem d15_39 : decode (mC 15) 39 = .ok (.bipush 10, 2) := by rw [mC_15]; decide +kernel
theorem d15_41 : decode (mC 15) 41 = .ok (.irem, 1) := by rw [mC_15]; decide +kernel
theorem d15_42 : decode (mC 15) 42 = .ok (.iadd, 1) := by rw [mC_15]; decide +kernel
theorem d15_43 : decode (mC 15) 43 = .ok (.invokevirtual 24, 3) := by rw [mC_15]; decide +kernel
theorem d15_46 : decode (mC 15) 46 = .ok (.aload_n 0, 1) := by rw [mC_15]; decide +kernel
theorem d15_47 : decode (mC 15) 47 = .ok (.bipush 48, 2) := by rw [mC_15]; decide +kernel
theorem d15_49 : decode (mC 15) 49 = .ok (.iload_n 1, 1) := by rw [mC_15]; decide +kernel
theorem d15_50 : decode (mC 15) 50 = .ok (.bipush 10, 2) := by rw [mC_15]; decide +kernel
theorem d15_52 : decode (mC 15) 52 = .ok (.irem, 1) := by rw [mC_15]; decide +kernel
theorem d15_53 : decode (mC 15) 53 = .ok (.iadd, 1) := by rw [mC_15]; decide +kernel
theorem d15_54 : decode (mC 15) 54 = .ok (.invokevirtual 24, 3) := by rw [mC_15]; decide +kernel
theorem d15_57 : decode (mC 15) 57 = .ok (.aload_n 0, 1) := by rw [mC_15]; decide +kernel
theorem d15_58 : decode (mC 15) 58 = .ok (.iconst 1, 1) := by rw [mC_15]; decide +kernel
theorem d15_59 : decode (mC 15) 59 = .ok (.invokevirtual 24, 3) := by rw [mC_15]; decide +kernel
theorem d15_62 : decode (mC 15) 62 = .ok (.return_, 1) := by rw [mC_15]; decide +kernel
theorem s15_0 {S : Nat × (Nat → Int32)} {L : List (Option Value)} {st : List Value} {n : Nat} {Q : xQ} {μ : xM} {a : Nat} (hl : L[0]? = some (some (.ref a))) (h : x_V S 15 1 L (.ref a :: st) μ n Q) : x_V S 15 0 L (st) μ n Q := x_aload_n d15_0 hl h
theorem s15_0N {S : Nat × (Nat → Int32)} {L : List (Option Value)} {st : List Value} {n : Nat} {Q : xQ} {μ : xM} (hl : L[0]? = some (some .null)) (h : x_V S 15 1 L (.null :: st) μ n Q) : x_V S 15 0 L st μ n Q := x_aload_nN d15_0 hl h
theorem s15_1 {S : Nat × (Nat → Int32)} {L : List (Option Value)} {st : List Value} {n : Nat} {Q : xQ} {μ : xM} {a : Nat} (hl : L[0]? = some (some (.ref a))) (h : x_V S 15 2 L (.ref a :: st) μ n Q) : x_V S 15 1 L (st) μ n Q := x_aload_n d15_1 hl h
theorem s15_1N {S : Nat × (Nat → Int32)} {L : List (Option Value)} {st : List Value} {n : Nat} {Q : xQ} {μ : xM} (hl : L[0]? = some (some .null)) (h : x_V S 15 2 L (.null :: st) μ n Q) : x_V S 15 1 L st μ n Q := x_aload_nN d15_1 hl h
theorem s15_2 {S : Nat × (Nat → Int32)} {L : List (Option Value)} {st : List Value} {n : Nat} {Q : xQ} {g : Nat → Nat → Int} {a : Nat} (hs : x_sh a = (2, 2)) (hp : x_pt a 1 = none) (ha : a ≠ x_out) (h : x_V S 15 5 L (.int (I (g a 1)) :: st) (x_vm g) n Q) : x_V S 15 2 L (.ref a :: st) (x_vm g) n Q := v_get (i := 1) cf2 d15_2 (by decide) w41 hs hp ha h
theorem s15_5 {S : Nat × (Nat → Int32)} {L : List (Option Value)} {st : List Value} {n : Nat} {Q : xQ} {μ : xM} {x0 : Int32} {a : Nat} (hs : x_sh a = (2, 2)) (hst : st.length ≤ 4) (h : x_V S 16 0 [some (.ref a), some (.int x0), none, none] [] μ n (x_bk S 15 5 L st Q)) : x_V S 15 5 L (.int x0 :: .ref a :: st) μ n Q := x_callV (k' := 16) (as := [.int x0]) (na := 1) d15_5 ⟨w426, by decide +kernel, by decide, by decide, by decide, by decide, by decide⟩ cf2 w423 w424 w425 (by decide +kernel) rfl hs (fun v hv => by
    simp only [List.mem_cons, List.not_mem_nil, or_false] at hv
    rcases hv with rfl <;> first | rfl | assumption) hst h
theorem s15_8 {S : Nat × (Nat → Int32)} {L : List (Option Value)} {st : List Value} {n : Nat} {Q : xQ} {μ : xM} {x : Int32} (h : x_V S 15 9 (L.set 1 (some (.int x))) (st) μ n Q) : x_V S 15 8 L (.int x :: st) μ n Q := x_istore_n d15_8 (by decide) h
theorem s15_9 {S : Nat × (Nat → Int32)} {L : List (Option Value)} {st : List Value} {n : Nat} {Q : xQ} {μ : xM} {a : Nat} (hl : L[0]? = some (some (.ref a))) (h : x_V S 15 10 L (.ref a :: st) μ n Q) : x_V S 15 9 L (st) μ n Q := x_aload_n d15_9 hl h
theorem s15_9N {S : Nat × (Nat → Int32)} {L : List (Option Value)} {st : List Value} {n : Nat} {Q : xQ} {μ : xM} (hl : L[0]? = some (some .null)) (h : x_V S 15 10 L (.null :: st) μ n Q) : x_V S 15 9 L st μ n Q := x_aload_nN d15_9 hl h
theorem s15_10 {S : Nat × (Nat → Int32)} {L : List (Option Value)} {st : List Value} {n : Nat} {Q : xQ} {μ : xM}  (h : x_V S 15 12 L (.int (I 10) :: st) μ n Q) : x_V S 15 10 L (st) μ n Q := x_bipush (by decide +kernel) d15_10 h
theorem s15_12 {S : Nat × (Nat → Int32)} {L : List (Option Value)} {st : List Value} {n : Nat} {Q : xQ} {μ : xM} {x0 : Int32} {a : Nat} (hs : x_sh a = (2, 2)) (hst : st.length ≤ 4) (h : x_V S 12 0 [some (.ref a), some (.int x0), none, none, none] [] μ n (x_bk S 15 12 L st Q)) : x_V S 15 12 L (.int x0 :: .ref a :: st) μ n Q := x_callV (k' := 12) (as := [.int x0]) (na := 1) d15_12 ⟨w387, by decide +kernel, by decide, by decide, by decide, by decide, by decide⟩ cf2 w384 w385 w386 (by decide +kernel) rfl hs (fun v hv => by
    simp only [List.mem_cons, List.not_mem_nil, or_false] at hv
    rcases hv with rfl <;> first | rfl | assumption) hst h
theorem s15_15 {S : Nat × (Nat → Int32)} {L : List (Option Value)} {st : List Value} {n : Nat} {Q : xQ} {μ : xM} {a : Nat} (hl : L[0]? = some (some (.ref a))) (h : x_V S 15 16 L (.ref a :: st) μ n Q) : x_V S 15 15 L (st) μ n Q := x_aload_n d15_15 hl h
theorem s15_15N {S : Nat × (Nat → Int32)} {L : List (Option Value)} {st : List Value} {n : Nat} {Q : xQ} {μ : xM} (hl : L[0]? = some (some .null)) (h : x_V S 15 16 L (.null :: st) μ n Q) : x_V S 15 15 L st μ n Q := x_aload_nN d15_15 hl h
theorem s15_16 {S : Nat × (Nat → Int32)} {L : List (Option Value)} {st : List Value} {n : Nat} {Q : xQ} {μ : xM}  (h : x_V S 15 18 L (.int (I 61) :: st) μ n Q) : x_V S 15 16 L (st) μ n Q := x_bipush (by decide +kernel) d15_16 h
theorem s15_18 {S : Nat × (Nat → Int32)} {L : List (Option Value)} {st : List Value} {n : Nat} {Q : xQ} {μ : xM} {x0 : Int32} {a : Nat} (hs : x_sh a = (2, 2)) (hst : st.length ≤ 4) (h : x_V S 11 0 [some (.ref a), some (.int x0)] [] μ n (x_bk S 15 18 L st Q)) : x_V S 15 18 L (.int x0 :: .ref a :: st) μ n Q := x_callV (k' := 11) (as := [.int x0]) (na := 1) d15_18 ⟨w392, by decide +kernel, by decide, by decide, by decide, by decide, by decide⟩ cf2 w389 w390 w391 (by decide +kernel) rfl hs (fun v hv => by
    simp only [List.mem_cons, List.not_mem_nil, or_false] at hv
    rcases hv with rfl <;> first | rfl | assumption) hst h
theorem s15_21 {S : Nat × (Nat → Int32)} {L : List (Option Value)} {st : List Value} {n : Nat} {Q : xQ} {μ : xM} {a : Nat} (hl : L[0]? = some (some (.ref a))) (h : x_V S 15 22 L (.ref a :: st) μ n Q) : x_V S 15 21 L (st) μ n Q := x_aload_n d15_21 hl h
theorem s15_21N {S : Nat × (Nat → Int32)} {L : List (Option Value)} {st : List Value} {n : Nat} {Q : xQ} {μ : xM} (hl : L[0]? = some (some .null)) (h : x_V S 15 22 L (.null :: st) μ n Q) : x_V S 15 21 L st μ n Q := x_aload_nN d15_21 hl h
theorem s15_22 {S : Nat × (Nat → Int32)} {L : List (Option Value)} {st : List Value} {n : Nat} {Q : xQ} {μ : xM}  (h : x_V S 15 24 L (.int (I 48) :: st) μ n Q) : x_V S 15 22 L (st) μ n Q := x_bipush (by decide +kernel) d15_22 h
theorem s15_24 {S : Nat × (Nat → Int32)} {L : List (Option Value)} {st : List Value} {n : Nat} {Q : xQ} {μ : xM} {x : Int32} (hl : L[1]? = some (some (.int x))) (h : x_V S 15 25 L (.int x :: st) μ n Q) : x_V S 15 24 L (st) μ n Q := x_iload_n d15_24 hl h
theorem s15_25 {S : Nat × (Nat → Int32)} {L : List (Option Value)} {st : List Value} {n : Nat} {Q : xQ} {μ : xM}  (h : x_V S 15 27 L (.int (I 100) :: st) μ n Q) : x_V S 15 25 L (st) μ n Q := x_bipush (by decide +kernel) d15_25 h
theorem s15_27 {S : Nat × (Nat → Int32)} {L : List (Option Value)} {st : List Value} {n : Nat} {Q : xQ} {μ : xM} {x y : Int} (hx : ib x) (hy : ib y) (hx0 : 0 ≤ x) (hy0 : 0 < y) (h : x_V S 15 28 L (.int (I (x / y)) :: st) μ n Q) : x_V S 15 27 L (.int (I y) :: .int (I x) :: st) μ n Q := v_idiv d15_27 hx hy hx0 hy0 h
theorem s15_28 {S : Nat × (Nat → Int32)} {L : List (Option Value)} {st : List Value} {n : Nat} {Q : xQ} {μ : xM} {x y : Int} (h : x_V S 15 29 L (.int (I (x + y)) :: st) μ n Q) : x_V S 15 28 L (.int (I y) :: .int (I x) :: st) μ n Q := v_iadd d15_28 h
theorem s15_29 {S : Nat × (Nat → Int32)} {L : List (Option Value)} {st : List Value} {n : Nat} {Q : xQ} {μ : xM} {x0 : Int32} {a : Nat} (hs : x_sh a = (2, 2)) (hst : st.length ≤ 4) (h : x_V S 11 0 [some (.ref a), some (.int x0)] [] μ n (x_bk S 15 29 L st Q)) : x_V S 15 29 L (.int x0 :: .ref a :: st) μ n Q := x_callV (k' := 11) (as := [.int x0]) (na := 1) d15_29 ⟨w392, by decide +kernel, by decide, by decide, by decide, by decide, by decide⟩ cf2 w389 w390 w391 (by decide +kernel) rfl hs (fun v hv => by
    simp only [List.mem_cons, List.not_mem_nil, or_false] at hv
    rcases hv with rfl <;> first | rfl | assumption) hst h
theorem s15_32 {S : Nat × (Nat → Int32)} {L : List (Option Value)} {st : List Value} {n : Nat} {Q : xQ} {μ : xM} {a : Nat} (hl : L[0]? = some (some (.ref a))) (h : x_V S 15 33 L (.ref a :: st) μ n Q) : x_V S 15 32 L (st) μ n Q := x_aload_n d15_32 hl h
theorem s15_32N {S : Nat × (Nat → Int32)} {L : List (Option Value)} {st : List Value} {n : Nat} {Q : xQ} {μ : xM} (hl : L[0]? = some (some .null)) (h : x_V S 15 33 L (.null :: st) μ n Q) : x_V S 15 32 L st μ n Q := x_aload_nN d15_32 hl h
theorem s15_33 {S : Nat × (Nat → Int32)} {L : List (Option Value)} {st : List Value} {n : Nat} {Q : xQ} {μ : xM}  (h : x_V S 15 35 L (.int (I 48) :: st) μ n Q) : x_V S 15 33 L (st) μ n Q := x_bipush (by decide +kernel) d15_33 h
theorem s15_35 {S : Nat × (Nat → Int32)} {L : List (Option Value)} {st : List Value} {n : Nat} {Q : xQ} {μ : xM} {x : Int32} (hl : L[1]? = some (some (.int x))) (h : x_V S 15 36 L (.int x :: st) μ n Q) : x_V S 15 35 L (st) μ n Q := x_iload_n d15_35 hl h
theorem s15_36 {S : Nat × (Nat → Int32)} {L : List (Option Value)} {st : List Value} {n : Nat} {Q : xQ} {μ : xM}  (h : x_V S 15 38 L (.int (I 10) :: st) μ n Q) : x_V S 15 36 L (st) μ n Q := x_bipush (by decide +kernel) d15_36 h
theorem s15_38 {S : Nat × (Nat → Int32)} {L : List (Option Value)} {st : List Value} {n : Nat} {Q : xQ} {μ : xM} {x y : Int} (hx : ib x) (hy : ib y) (hx0 : 0 ≤ x) (hy0 : 0 < y) (h : x_V S 15 39 L (.int (I (x / y)) :: st) μ n Q) : x_V S 15 38 L (.int (I y) :: .int (I x) :: st) μ n Q := v_idiv d15_38 hx hy hx0 hy0 h
theorem s15_39 {S : Nat × (Nat → Int32)} {L : List (Option Value)} {st : List Value} {n : Nat} {Q : xQ} {μ : xM}  (h : x_V S 15 41 L (.int (I 10) :: st) μ n Q) : x_V S 15 39 L (st) μ n Q := x_bipush (by decide +kernel) d15_39 h
theorem s15_41 {S : Nat × (Nat → Int32)} {L : List (Option Value)} {st : List Value} {n : Nat} {Q : xQ} {μ : xM} {x y : Int} (hx : ib x) (hy : ib y) (hx0 : 0 ≤ x) (hy0 : 0 < y) (h : x_V S 15 42 L (.int (I (x % y)) :: st) μ n Q) : x_V S 15 41 L (.int (I y) :: .int (I x) :: st) μ n Q := v_irem d15_41 hx hy hx0 hy0 h
theorem s15_42 {S : Nat × (Nat → Int32)} {L : List (Option Value)} {st : List Value} {n : Nat} {Q : xQ} {μ : xM} {x y : Int} (h : x_V S 15 43 L (.int (I (x + y)) :: st) μ n Q) : x_V S 15 42 L (.int (I y) :: .int (I x) :: st) μ n Q := v_iadd d15_42 h
theorem s15_43 {S : Nat × (Nat → Int32)} {L : List (Option Value)} {st : List Value} {n : Nat} {Q : xQ} {μ : xM} {x0 : Int32} {a : Nat} (hs : x_sh a = (2, 2)) (hst : st.length ≤ 4) (h : x_V S 11 0 [some (.ref a), some (.int x0)] [] μ n (x_bk S 15 43 L st Q)) : x_V S 15 43 L (.int x0 :: .ref a :: st) μ n Q := x_callV (k' := 11) (as := [.int x0]) (na := 1) d15_43 ⟨w392, by decide +kernel, by decide, by decide, by decide, by decide, by decide⟩ cf2 w389 w390 w391 (by decide +kernel) rfl hs (fun v hv => by
    simp only [List.mem_cons, List.not_mem_nil, or_false] at hv
    rcases hv with rfl <;> first | rfl | assumption) hst h
theorem s15_46 {S : Nat × (Nat → Int32)} {L : List (Option Value)} {st : List Value} {n : Nat} {Q : xQ} {μ : xM} {a : Nat} (hl : L[0]? = some (some (.ref a))) (h : x_V S 15 47 L (.ref a :: st) μ n Q) : x_V S 15 46 L (st) μ n Q := x_aload_n d15_46 hl h
theorem s15_46N {S : Nat × (Nat → Int32)} {L : List (Option Value)} {st : List Value} {n : Nat} {Q : xQ} {μ : xM} (hl : L[0]? = some (some .null)) (h : x_V S 15 47 L (.null :: st) μ n Q) : x_V S 15 46 L st μ n Q := x_aload_nN d15_46 hl h
theorem s15_47 {S : Nat × (Nat → Int32)} {L : List (Option Value)} {st : List Value} {n : Nat} {Q : xQ} {μ : xM}  (h : x_V S 15 49 L (.int (I 48) :: st) μ n Q) : x_V S 15 47 L (st) μ n Q := x_bipush (by decide +kernel) d15_47 h
theorem s15_49 {S : Nat × (Nat → Int32)} {L : List (Option Value)} {st : List Value} {n : Nat} {Q : xQ} {μ : xM} {x : Int32} (hl : L[1]? = some (some (.int x))) (h : x_V S 15 50 L (.int x :: st) μ n Q) : x_V S 15 49 L (st) μ n Q := x_iload_n d15_49 hl h
theorem s15_50 {S : Nat × (Nat → Int32)} {L : List (Option Value)} {st : List Value} {n : Nat} {Q : xQ} {μ : xM}  (h : x_V S 15 52 L (.int (I 10) :: st) μ n Q) : x_V S 15 50 L (st) μ n Q := x_bipush (by decide +kernel) d15_50 h
theorem s15_52 {S : Nat × (Nat → Int32)} {L : List (Option Value)} {st : List Value} {n : Nat} {Q : xQ} {μ : xM} {x y : Int} (hx : ib x) (hy : ib y) (hx0 : 0 ≤ x) (hy0 : 0 < y) (h : x_V S 15 53 L (.int (I (x % y)) :: st) μ n Q) : x_V S 15 52 L (.int (I y) :: .int (I x) :: st) μ n Q := v_irem d15_52 hx hy hx0 hy0 h
theorem s15_53 {S : Nat × (Nat → Int32)} {L : List (Option Value)} {st : List Value} {n : Nat} {Q : xQ} {μ : xM} {x y : Int} (h : x_V S 15 54 L (.int (I (x + y)) :: st) μ n Q) : x_V S 15 53 L (.int (I y) :: .int (I x) :: st) μ n Q := v_iadd d15_53 h
theorem s15_54 {S : Nat × (Nat → Int32)} {L : List (Option Value)} {st : List Value} {n : Nat} {Q : xQ} {μ : xM} {x0 : Int32} {a : Nat} (hs : x_sh a = (2, 2)) (hst : st.length ≤ 4) (h : x_V S 11 0 [some (.ref a), some (.int x0)] [] μ n (x_bk S 15 54 L st Q)) : x_V S 15 54 L (.int x0 :: .ref a :: st) μ n Q := x_callV (k' := 11) (as := [.int x0]) (na := 1) d15_54 ⟨w392, by decide +kernel, by decide, by decide, by decide, by decide, by decide⟩ cf2 w389 w390 w391 (by decide +kernel) rfl hs (fun v hv => by
    simp only [List.mem_cons, List.not_mem_nil, or_false] at hv
    rcases hv with rfl <;> first | rfl | assumption) hst h
theorem s15_57 {S : Nat × (Nat → Int32)} {L : List (Option Value)} {st : List Value} {n : Nat} {Q : xQ} {μ : xM} {a : Nat} (hl : L[0]? = some (some (.ref a))) (h : x_V S 15 58 L (.ref a :: st) μ n Q) : x_V S 15 57 L (st) μ n Q := x_aload_n d15_57 hl h
theorem s15_57N {S : Nat × (Nat → Int32)} {L : List (Option Value)} {st : List Value} {n : Nat} {Q : xQ} {μ : xM} (hl : L[0]? = some (some .null)) (h : x_V S 15 58 L (.null :: st) μ n Q) : x_V S 15 57 L st μ n Q := x_aload_nN d15_57 hl h
theorem s15_58 {S : Nat × (Nat → Int32)} {L : List (Option Value)} {st : List Value} {n : Nat} {Q : xQ} {μ : xM}  (h : x_V S 15 59 L (.int (I 1) :: st) μ n Q) : x_V S 15 58 L (st) μ n Q := x_iconst (by decide +kernel) d15_58 h
theorem s15_59 {S : Nat × (Nat → Int32)} {L : List (Option Value)} {st : List Value} {n : Nat} {Q : xQ} {μ : xM} {x0 : Int32} {a : Nat} (hs : x_sh a = (2, 2)) (hst : st.length ≤ 4) (h : x_V S 11 0 [some (.ref a), some (.int x0)] [] μ n (x_bk S 15 59 L st Q)) : x_V S 15 59 L (.int x0 :: .ref a :: st) μ n Q := x_callV (k' := 11) (as := [.int x0]) (na := 1) d15_59 ⟨w392, by decide +kernel, by decide, by decide, by decide, by decide, by decide⟩ cf2 w389 w390 w391 (by decide +kernel) rfl hs (fun v hv => by
    simp only [List.mem_cons, List.not_mem_nil, or_false] at hv
    rcases hv with rfl <;> first | rfl | assumption) hst h
theorem s15_62 {S : Nat × (Nat → Int32)} {L : List (Option Value)} {st : List Value} {n : Nat} {Q : xQ} {μ : xM}  (h : Q (.inl none) μ n) : x_V S 15 62 L ([]) μ n Q := x_return d15_62 rfl h
theorem mC_16 : mC 16 = prog_8_method_12_code := rfl
theorem d16_0 : decode (mC 16) 0 = .ok (.iconst 0, 1) := by rw [mC_16]; decide +kernel
theorem d16_1 : decode (mC 16) 1 = .ok (.istore_n 2, 1) := by rw [mC_16]; decide +kernel
theorem d16_2 : decode (mC 16) 2 = .ok (.iconst 0, 1) := by rw [mC_16]; decide +kernel
theorem d16_3 : decode (mC 16) 3 = .ok (.istore_n 3, 1) := by rw [mC_16]; decide +kernel
theorem d16_4 : decode (mC 16) 4 = .ok (.iload_n 3, 1) := by rw [mC_16]; decide +kernel
theorem d16_5 : decode (mC 16) 5 = .ok (.iload_n 1, 1) := by rw [mC_16]; decide +kernel
theorem d16_6 : decode (mC 16) 6 = .ok (.if_icmp .ge 26, 3) := by rw [mC_16]; decide +kernel
theorem d16_9 : decode (mC 16) 9 = .ok (.iload_n 3, 1) := by rw [mC_16]; decide +kernel
theorem d16_10 : decode (mC 16) 10 = .ok (.aload_n 0, 1) := by rw [mC_16]; decide +kernel
theorem d16_11 : decode (mC 16) 11 = .ok (.getfield 15, 3) := by rw [mC_16]; decide +kernel
theorem d16_14 : decode (mC 16) 14 = .ok (.if_icmp .ge 18, 3) := by rw [mC_16]; decide +kernel
theorem d16_17 : decode (mC 16) 17 = .ok (.iload_n 2, 1) := by rw [mC_16]; decide +kernel
theorem d16_18 : decode (mC 16) 18 = .ok (.aload_n 0, 1) := by rw [mC_16]; decide +kernel
theorem d16_19 : decode (mC 16) 19 = .ok (.getfield 11, 3) := by rw [mC_16]; decide +kernel
theorem d16_22 : decode (mC 16) 22 = .ok (.iload_n 3, 1) := by rw [mC_16]; decide +kernel
theorem d16_23 : decode (mC 16) 23 = .ok (.iaload, 1) := by rw [mC_16]; decide +kernel
theorem d16_24 : decode (mC 16) 24 = .ok (.iadd, 1) := by rw [mC_16]; decide +kernel
theorem d16_25 : decode (mC 16) 25 = .ok (.istore_n 2, 1) := by rw [mC_16]; decide +kernel
theorem d16_26 : decode (mC 16) 26 = .ok (.iinc 3 1, 3) := by rw [mC_16]; decide +kernel
theorem d16_29 : decode (mC 16) 29 = .ok (.goto (-25), 3) := by rw [mC_16]; decide +kernel
theorem d16_32 : decode (mC 16) 32 = .ok (.iload_n 2, 1) := by rw [mC_16]; decide +kernel
theorem d16_33 : decode (mC 16) 33 = .ok (.sipush 256, 3) := by rw [mC_16]; decide +kernel
theorem d16_36 : decode (mC 16) 36 = .ok (.irem, 1) := by rw [mC_16]; decide +kernel
theorem d16_37 : decode (mC 16) 37 = .ok (.ireturn, 1) := by rw [mC_16]; decide +kernel
theorem s16_0 {S : Nat × (Nat → Int32)} {L : List (Option Value)} {st : List Value} {n : Nat} {Q : xQ} {μ : xM}  (h : x_V S 16 1 L (.int (I 0) :: st) μ n Q) : x_V S 16 0 L (st) μ n Q := x_iconst (by decide +kernel) d16_0 h
theorem s16_1 {S : Nat × (Nat → Int32)} {L : List (Option Value)} {st : List Value} {n : Nat} {Q : xQ} {μ : xM} {x : Int32} (h : x_V S 16 2 (L.set 2 (some (.int x))) (st) μ n Q) : x_V S 16 1 L (.int x :: st) μ n Q := x_istore_n d16_1 (by decide) h
theorem s16_2 {S : Nat × (Nat → Int32)} {L : List (Option Value)} {st : List Value} {n : Nat} {Q : xQ} {μ : xM}  (h : x_V S 16 3 L (.int (I 0) :: st) μ n Q) : x_V S 16 2 L (st) μ n Q := x_iconst (by decide +kernel) d16_2 h
theorem s16_3 {S : Nat × (Nat → Int32)} {L : List (Option Value)} {st : List Value} {n : Nat} {Q : xQ} {μ : xM} {x : Int32} (h : x_V S 16 4 (L.set 3 (some (.int x))) (st) μ n Q) : x_V S 16 3 L (.int x :: st) μ n Q := x_istore_n d16_3 (by decide) h
theorem s16_4 {S : Nat × (Nat → Int32)} {L : List (Option Value)} {st : List Value} {n : Nat} {Q : xQ} {μ : xM} {x : Int32} (hl : L[3]? = some (some (.int x))) (h : x_V S 16 5 L (.int x :: st) μ n Q) : x_V S 16 4 L (st) μ n Q := x_iload_n d16_4 hl h
theorem s16_5 {S : Nat × (Nat → Int32)} {L : List (Option Value)} {st : List Value} {n : Nat} {Q : xQ} {μ : xM} {x : Int32} (hl : L[1]? = some (some (.int x))) (h : x_V S 16 6 L (.int x :: st) μ n Q) : x_V S 16 5 L (st) μ n Q := x_iload_n d16_5 hl h
theorem s16_6 {S : Nat × (Nat → Int32)} {L : List (Option Value)} {st : List Value} {n : Nat} {Q : xQ} {μ : xM} {x y : Int} (hx : ib x) (hy : ib y) (kt : y ≤ x → x_V S 16 32 L (st) μ n Q) (kf : x < y → x_V S 16 9 L (st) μ n Q) : x_V S 16 6 L (.int (I y) :: .int (I x) :: st) μ n Q := v_icmp_ge d16_6 (by decide) hx hy kt kf
theorem s16_9 {S : Nat × (Nat → Int32)} {L : List (Option Value)} {st : List Value} {n : Nat} {Q : xQ} {μ : xM} {x : Int32} (hl : L[3]? = some (some (.int x))) (h : x_V S 16 10 L (.int x :: st) μ n Q) : x_V S 16 9 L (st) μ n Q := x_iload_n d16_9 hl h
theorem s16_10 {S : Nat × (Nat → Int32)} {L : List (Option Value)} {st : List Value} {n : Nat} {Q : xQ} {μ : xM} {a : Nat} (hl : L[0]? = some (some (.ref a))) (h : x_V S 16 11 L (.ref a :: st) μ n Q) : x_V S 16 10 L (st) μ n Q := x_aload_n d16_10 hl h
theorem s16_10N {S : Nat × (Nat → Int32)} {L : List (Option Value)} {st : List Value} {n : Nat} {Q : xQ} {μ : xM} (hl : L[0]? = some (some .null)) (h : x_V S 16 11 L (.null :: st) μ n Q) : x_V S 16 10 L st μ n Q := x_aload_nN d16_10 hl h
theorem s16_11 {S : Nat × (Nat → Int32)} {L : List (Option Value)} {st : List Value} {n : Nat} {Q : xQ} {g : Nat → Nat → Int} {a : Nat} (hs : x_sh a = (2, 2)) (hp : x_pt a 1 = none) (ha : a ≠ x_out) (h : x_V S 16 14 L (.int (I (g a 1)) :: st) (x_vm g) n Q) : x_V S 16 11 L (.ref a :: st) (x_vm g) n Q := v_get (i := 1) cf2 d16_11 (by decide) w41 hs hp ha h
theorem s16_14 {S : Nat × (Nat → Int32)} {L : List (Option Value)} {st : List Value} {n : Nat} {Q : xQ} {μ : xM} {x y : Int} (hx : ib x) (hy : ib y) (kt : y ≤ x → x_V S 16 32 L (st) μ n Q) (kf : x < y → x_V S 16 17 L (st) μ n Q) : x_V S 16 14 L (.int (I y) :: .int (I x) :: st) μ n Q := v_icmp_ge d16_14 (by decide) hx hy kt kf
theorem s16_17 {S : Nat × (Nat → Int32)} {L : List (Option Value)} {st : List Value} {n : Nat} {Q : xQ} {μ : xM} {x : Int32} (hl : L[2]? = some (some (.int x))) (h : x_V S 16 18 L (.int x :: st) μ n Q) : x_V S 16 17 L (st) μ n Q := x_iload_n d16_17 hl h
theorem s16_18 {S : Nat × (Nat → Int32)} {L : List (Option Value)} {st : List Value} {n : Nat} {Q : xQ} {μ : xM} {a : Nat} (hl : L[0]? = some (some (.ref a))) (h : x_V S 16 19 L (.ref a :: st) μ n Q) : x_V S 16 18 L (st) μ n Q := x_aload_n d16_18 hl h
theorem s16_18N {S : Nat × (Nat → Int32)} {L : List (Option Value)} {st : List Value} {n : Nat} {Q : xQ} {μ : xM} (hl : L[0]? = some (some .null)) (h : x_V S 16 19 L (.null :: st) μ n Q) : x_V S 16 18 L st μ n Q := x_aload_nN d16_18 hl h
theorem s16_19 {S : Nat × (Nat → Int32)} {L : List (Option Value)} {st : List Value} {n : Nat} {Q : xQ} {g : Nat → Nat → Int} {a : Nat} {v : Value} (hs : x_sh a = (2, 2)) (hp : x_pt a 0 = some v) (h : x_V S 16 22 L (v :: st) (x_vm g) n Q) : x_V S 16 19 L (.ref a :: st) (x_vm g) n Q := v_getp (i := 0) cf2 d16_19 (by decide) w40 hs hp h
theorem s16_22 {S : Nat × (Nat → Int32)} {L : List (Option Value)} {st : List Value} {n : Nat} {Q : xQ} {μ : xM} {x : Int32} (hl : L[3]? = some (some (.int x))) (h : x_V S 16 23 L (.int x :: st) μ n Q) : x_V S 16 22 L (st) μ n Q := x_iload_n d16_22 hl h
theorem s16_24 {S : Nat × (Nat → Int32)} {L : List (Option Value)} {st : List Value} {n : Nat} {Q : xQ} {μ : xM} {x y : Int} (h : x_V S 16 25 L (.int (I (x + y)) :: st) μ n Q) : x_V S 16 24 L (.int (I y) :: .int (I x) :: st) μ n Q := v_iadd d16_24 h
theorem s16_25 {S : Nat × (Nat → Int32)} {L : List (Option Value)} {st : List Value} {n : Nat} {Q : xQ} {μ : xM} {x : Int32} (h : x_V S 16 26 (L.set 2 (some (.int x))) (st) μ n Q) : x_V S 16 25 L (.int x :: st) μ n Q := x_istore_n d16_25 (by decide) h
theorem s16_26 {S : Nat × (Nat → Int32)} {L : List (Option Value)} {st : List Value} {n : Nat} {Q : xQ} {μ : xM} {x : Int} (hl : L[3]? = some (some (.int (I x)))) (h : x_V S 16 29 (L.set 3 (some (.int (I (x + 1))))) (st) μ n Q) : x_V S 16 26 L (st) μ n Q := v_iinc d16_26 hl (by decide) h
theorem s16_29 {S : Nat × (Nat → Int32)} {L : List (Option Value)} {st : List Value} {n : Nat} {Q : xQ} {μ : xM}  (h : x_V S 16 4 L (st) μ n Q) : x_V S 16 29 L (st) μ n Q := x_goto (tgt := 4) (by decide) d16_29 h
theorem s16_32 {S : Nat × (Nat → Int32)} {L : List (Option Value)} {st : List Value} {n : Nat} {Q : xQ} {μ : xM} {x : Int32} (hl : L[2]? = some (some (.int x))) (h : x_V S 16 33 L (.int x :: st) μ n Q) : x_V S 16 32 L (st) μ n Q := x_iload_n d16_32 hl h
theorem s16_33 {S : Nat × (Nat → Int32)} {L : List (Option Value)} {st : List Value} {n : Nat} {Q : xQ} {μ : xM}  (h : x_V S 16 36 L (.int (I 256) :: st) μ n Q) : x_V S 16 33 L (st) μ n Q := x_sipush (by decide +kernel) d16_33 h
theorem s16_36 {S : Nat × (Nat → Int32)} {L : List (Option Value)} {st : List Value} {n : Nat} {Q : xQ} {μ : xM} {x y : Int} (hx : ib x) (hy : ib y) (hx0 : 0 ≤ x) (hy0 : 0 < y) (h : x_V S 16 37 L (.int (I (x % y)) :: st) μ n Q) : x_V S 16 36 L (.int (I y) :: .int (I x) :: st) μ n Q := v_irem d16_36 hx hy hx0 hy0 h
theorem s16_37 {S : Nat × (Nat → Int32)} {L : List (Option Value)} {st : List Value} {n : Nat} {Q : xQ} {μ : xM} {x : Int32} (h : Q (.inl (some (.int x))) μ n) : x_V S 16 37 L (.int x :: []) μ n Q := x_ireturn d16_37 rfl rfl h
theorem mC_17 : mC 17 = prog_6_method_1_code := rfl
theorem d17_0 : decode (mC 17) 0 = .ok (.aload_n 0, 1) := by rw [mC_17]; decide +kernel
theorem d17_1 : decode (mC 17) 1 = .ok (.invokespecial 1, 3) := by rw [mC_17]; decide +kernel
theorem d17_4 : decode (mC 17) 4 = .ok (.return_, 1) := by rw [mC_17]; decide +kernel
theorem s17_0 {S : Nat × (Nat → Int32)} {L : List (Option Value)} {st : List Value} {n : Nat} {Q : xQ} {μ : xM} {a : Nat} (hl : L[0]? = some (some (.ref a))) (h : x_V S 17 1 L (.ref a :: st) μ n Q) : x_V S 17 0 L (st) μ n Q := x_aload_n d17_0 hl h
theorem s17_0N {S : Nat × (Nat → Int32)} {L : List (Option Value)} {st : List Value} {n : Nat} {Q : xQ} {μ : xM} (hl : L[0]? = some (some .null)) (h : x_V S 17 1 L (.null :: st) μ n Q) : x_V S 17 0 L st μ n Q := x_aload_nN d17_0 hl h
theorem s17_1 {S : Nat × (Nat → Int32)} {L : List (Option Value)} {st : List Value} {n : Nat} {Q : xQ} {μ : xM} {a : Nat} (hst : st.length ≤ 4) (h : x_V S 17 4 L (st) μ n Q) : x_V S 17 1 L (.ref a :: st) μ n Q := x_objInit d17_1 w126 w26 w27 ⟨by decide, by decide⟩ hst h
theorem s17_4 {S : Nat × (Nat → Int32)} {L : List (Option Value)} {st : List Value} {n : Nat} {Q : xQ} {μ : xM}  (h : Q (.inl none) μ n) : x_V S 17 4 L ([]) μ n Q := x_return d17_4 rfl h
theorem mC_18 : mC 18 = prog_6_method_2_code := rfl
theorem d18_0 : decode (mC 18) 0 = .ok (.aload_n 0, 1) := by rw [mC_18]; decide +kernel
theorem d18_1 : decode (mC 18) 1 = .ok (.getfield 7, 3) := by rw [mC_18]; decide +kernel
theorem d18_4 : decode (mC 18) 4 = .ok (.ifCond .ne 18, 3) := by rw [mC_18]; decide +kernel
theorem d18_7 : decode (mC 18) 7 = .ok (.aload_n 0, 1) := by rw [mC_18]; decide +kernel
theorem d18_8 : decode (mC 18) 8 = .ok (.getfield 13, 3) := by rw [mC_18]; decide +kernel
theorem d18_11 : decode (mC 18) 11 = .ok (.aload_n 0, 1) := by rw [mC_18]; decide +kernel
theorem d18_12 : decode (mC 18) 12 = .ok (.getfield 17, 3) := by rw [mC_18]; decide +kernel
theorem d18_15 : decode (mC 18) 15 = .ok (.if_icmp .ge 7, 3) := by rw [mC_18]; decide +kernel
theorem d18_18 : decode (mC 18) 18 = .ok (.iconst 1, 1) := by rw [mC_18]; decide +kernel
theorem d18_19 : decode (mC 18) 19 = .ok (.goto 4, 3) := by rw [mC_18]; decide +kernel
theorem d18_22 : decode (mC 18) 22 = .ok (.iconst 0, 1) := by rw [mC_18]; decide +kernel
theorem d18_23 : decode (mC 18) 23 = .ok (.ireturn, 1) := by rw [mC_18]; decide +kernel
theorem s18_0 {S : Nat × (Nat → Int32)} {L : List (Option Value)} {st : List Value} {n : Nat} {Q : xQ} {μ : xM} {a : Nat} (hl : L[0]? = some (some (.ref a))) (h : x_V S 18 1 L (.ref a :: st) μ n Q) : x_V S 18 0 L (st) μ n Q := x_aload_n d18_0 hl h
theorem s18_0N {S : Nat × (Nat → Int32)} {L : List (Option Value)} {st : List Value} {n : Nat} {Q : xQ} {μ : xM} (hl : L[0]? = some (some .null)) (h : x_V S 18 1 L (.null :: st) μ n Q) : x_V S 18 0 L st μ n Q := x_aload_nN d18_0 hl h
theorem s18_1 {S : Nat × (Nat → Int32)} {L : List (Option Value)} {st : List Value} {n : Nat} {Q : xQ} {g : Nat → Nat → Int} {a : Nat} (hs : x_sh a = (7, 5)) (hp : x_pt a 4 = none) (ha : a ≠ x_out) (h : x_V S 18 4 L (.int (I (g a 4)) :: st) (x_vm g) n Q) : x_V S 18 1 L (.ref a :: st) (x_vm g) n Q := v_get (i := 4) cf7 d18_1 (by decide) w137 hs hp ha h
theorem s18_4 {S : Nat × (Nat → Int32)} {L : List (Option Value)} {st : List Value} {n : Nat} {Q : xQ} {μ : xM} {x : Int} (hx : ib x) (kt : x ≠ 0 → x_V S 18 22 L (st) μ n Q) (kf : x = 0 → x_V S 18 7 L (st) μ n Q) : x_V S 18 4 L (.int (I x) :: st) μ n Q := v_if_ne d18_4 (by decide) hx kt kf
theorem s18_7 {S : Nat × (Nat → Int32)} {L : List (Option Value)} {st : List Value} {n : Nat} {Q : xQ} {μ : xM} {a : Nat} (hl : L[0]? = some (some (.ref a))) (h : x_V S 18 8 L (.ref a :: st) μ n Q) : x_V S 18 7 L (st) μ n Q := x_aload_n d18_7 hl h
theorem s18_7N {S : Nat × (Nat → Int32)} {L : List (Option Value)} {st : List Value} {n : Nat} {Q : xQ} {μ : xM} (hl : L[0]? = some (some .null)) (h : x_V S 18 8 L (.null :: st) μ n Q) : x_V S 18 7 L st μ n Q := x_aload_nN d18_7 hl h
theorem s18_8 {S : Nat × (Nat → Int32)} {L : List (Option Value)} {st : List Value} {n : Nat} {Q : xQ} {g : Nat → Nat → Int} {a : Nat} (hs : x_sh a = (7, 5)) (hp : x_pt a 3 = none) (ha : a ≠ x_out) (h : x_V S 18 11 L (.int (I (g a 3)) :: st) (x_vm g) n Q) : x_V S 18 8 L (.ref a :: st) (x_vm g) n Q := v_get (i := 3) cf7 d18_8 (by decide) w133 hs hp ha h
theorem s18_11 {S : Nat × (Nat → Int32)} {L : List (Option Value)} {st : List Value} {n : Nat} {Q : xQ} {μ : xM} {a : Nat} (hl : L[0]? = some (some (.ref a))) (h : x_V S 18 12 L (.ref a :: st) μ n Q) : x_V S 18 11 L (st) μ n Q := x_aload_n d18_11 hl h
theorem s18_11N {S : Nat × (Nat → Int32)} {L : List (Option Value)} {st : List Value} {n : Nat} {Q : xQ} {μ : xM} (hl : L[0]? = some (some .null)) (h : x_V S 18 12 L (.null :: st) μ n Q) : x_V S 18 11 L st μ n Q := x_aload_nN d18_11 hl h
theorem s18_12 {S : Nat × (Nat → Int32)} {L : List (Option Value)} {st : List Value} {n : Nat} {Q : xQ} {g : Nat → Nat → Int} {a : Nat} (hs : x_sh a = (7, 5)) (hp : x_pt a 2 = none) (ha : a ≠ x_out) (h : x_V S 18 15 L (.int (I (g a 2)) :: st) (x_vm g) n Q) : x_V S 18 12 L (.ref a :: st) (x_vm g) n Q := v_get (i := 2) cf7 d18_12 (by decide) w130 hs hp ha h
theorem s18_15 {S : Nat × (Nat → Int32)} {L : List (Option Value)} {st : List Value} {n : Nat} {Q : xQ} {μ : xM} {x y : Int} (hx : ib x) (hy : ib y) (kt : y ≤ x → x_V S 18 22 L (st) μ n Q) (kf : x < y → x_V S 18 18 L (st) μ n Q) : x_V S 18 15 L (.int (I y) :: .int (I x) :: st) μ n Q := v_icmp_ge d18_15 (by decide) hx hy kt kf
theorem s18_18 {S : Nat × (Nat → Int32)} {L : List (Option Value)} {st : List Value} {n : Nat} {Q : xQ} {μ : xM}  (h : x_V S 18 19 L (.int (I 1) :: st) μ n Q) : x_V S 18 18 L (st) μ n Q := x_iconst (by decide +kernel) d18_18 h
theorem s18_19 {S : Nat × (Nat → Int32)} {L : List (Option Value)} {st : List Value} {n : Nat} {Q : xQ} {μ : xM}  (h : x_V S 18 23 L (st) μ n Q) : x_V S 18 19 L (st) μ n Q := x_goto (tgt := 23) (by decide) d18_19 h
theorem s18_22 {S : Nat × (Nat → Int32)} {L : List (Option Value)} {st : List Value} {n : Nat} {Q : xQ} {μ : xM}  (h : x_V S 18 23 L (.int (I 0) :: st) μ n Q) : x_V S 18 22 L (st) μ n Q := x_iconst (by decide +kernel) d18_22 h
theorem s18_23 {S : Nat × (Nat → Int32)} {L : List (Option Value)} {st : List Value} {n : Nat} {Q : xQ} {μ : xM} {v : Int} (hv : v = 0 ∨ v = 1) (h : Q (.inl (some (.int (I v)))) μ n) : x_V S 18 23 L (.int (I v) :: []) μ n Q := v_zreturn d18_23 rfl hv h
theorem mC_19 : mC 19 = prog_6_method_3_code := rfl
theorem d19_0 : decode (mC 19) 0 = .ok (.aload_n 0, 1) := by rw [mC_19]; decide +kernel
theorem d19_1 : decode (mC 19) 1 = .ok (.getfield 7, 3) := by rw [mC_19]; decide +kernel
theorem d19_4 : decode (mC 19) 4 = .ok (.ifCond .eq 7, 3) := by rw [mC_19]; decide +kernel
theorem d19_7 : decode (mC 19) 7 = .ok (.iconst 0, 1) := by rw [mC_19]; decide +kernel
theorem d19_8 : decode (mC 19) 8 = .ok (.goto 12, 3) := by rw [mC_19]; decide +kernel
theorem d19_11 : decode (mC 19) 11 = .ok (.aload_n 0, 1) := by rw [mC_19]; decide +kernel
theorem d19_12 : decode (mC 19) 12 = .ok (.getfield 17, 3) := by rw [mC_19]; decide +kernel
theorem d19_15 : decode (mC 19) 15 = .ok (.aload_n 0, 1) := by rw [mC_19]; decide +kernel
theorem d19_16 : decode (mC 19) 16 = .ok (.getfield 13, 3) := by rw [mC_19]; decide +kernel
theorem d19_19 : decode (mC 19) 19 = .ok (.isub, 1) := by rw [mC_19]; decide +kernel
theorem d19_20 : decode (mC 19) 20 = .ok (.ireturn, 1) := by rw [mC_19]; decide +kernel
theorem s19_0 {S : Nat × (Nat → Int32)} {L : List (Option Value)} {st : List Value} {n : Nat} {Q : xQ} {μ : xM} {a : Nat} (hl : L[0]? = some (some (.ref a))) (h : x_V S 19 1 L (.ref a :: st) μ n Q) : x_V S 19 0 L (st) μ n Q := x_aload_n d19_0 hl h
theorem s19_0N {S : Nat × (Nat → Int32)} {L : List (Option Value)} {st : List Value} {n : Nat} {Q : xQ} {μ : xM} (hl : L[0]? = some (some .null)) (h : x_V S 19 1 L (.null :: st) μ n Q) : x_V S 19 0 L st μ n Q := x_aload_nN d19_0 hl h
theorem s19_1 {S : Nat × (Nat → Int32)} {L : List (Option Value)} {st : List Value} {n : Nat} {Q : xQ} {g : Nat → Nat → Int} {a : Nat} (hs : x_sh a = (7, 5)) (hp : x_pt a 4 = none) (ha : a ≠ x_out) (h : x_V S 19 4 L (.int (I (g a 4)) :: st) (x_vm g) n Q) : x_V S 19 1 L (.ref a :: st) (x_vm g) n Q := v_get (i := 4) cf7 d19_1 (by decide) w137 hs hp ha h
theorem s19_4 {S : Nat × (Nat → Int32)} {L : List (Option Value)} {st : List Value} {n : Nat} {Q : xQ} {μ : xM} {x : Int} (hx : ib x) (kt : x = 0 → x_V S 19 11 L (st) μ n Q) (kf : x ≠ 0 → x_V S 19 7 L (st) μ n Q) : x_V S 19 4 L (.int (I x) :: st) μ n Q := v_if_eq d19_4 (by decide) hx kt kf
theorem s19_7 {S : Nat × (Nat → Int32)} {L : List (Option Value)} {st : List Value} {n : Nat} {Q : xQ} {μ : xM}  (h : x_V S 19 8 L (.int (I 0) :: st) μ n Q) : x_V S 19 7 L (st) μ n Q := x_iconst (by decide +kernel) d19_7 h
theorem s19_8 {S : Nat × (Nat → Int32)} {L : List (Option Value)} {st : List Value} {n : Nat} {Q : xQ} {μ : xM}  (h : x_V S 19 20 L (st) μ n Q) : x_V S 19 8 L (st) μ n Q := x_goto (tgt := 20) (by decide) d19_8 h
theorem s19_11 {S : Nat × (Nat → Int32)} {L : List (Option Value)} {st : List Value} {n : Nat} {Q : xQ} {μ : xM} {a : Nat} (hl : L[0]? = some (some (.ref a))) (h : x_V S 19 12 L (.ref a :: st) μ n Q) : x_V S 19 11 L (st) μ n Q := x_aload_n d19_11 hl h
theorem s19_11N {S : Nat × (Nat → Int32)} {L : List (Option Value)} {st : List Value} {n : Nat} {Q : xQ} {μ : xM} (hl : L[0]? = some (some .null)) (h : x_V S 19 12 L (.null :: st) μ n Q) : x_V S 19 11 L st μ n Q := x_aload_nN d19_11 hl h
theorem s19_12 {S : Nat × (Nat → Int32)} {L : List (Option Value)} {st : List Value} {n : Nat} {Q : xQ} {g : Nat → Nat → Int} {a : Nat} (hs : x_sh a = (7, 5)) (hp : x_pt a 2 = none) (ha : a ≠ x_out) (h : x_V S 19 15 L (.int (I (g a 2)) :: st) (x_vm g) n Q) : x_V S 19 12 L (.ref a :: st) (x_vm g) n Q := v_get (i := 2) cf7 d19_12 (by decide) w130 hs hp ha h
theorem s19_15 {S : Nat × (Nat → Int32)} {L : List (Option Value)} {st : List Value} {n : Nat} {Q : xQ} {μ : xM} {a : Nat} (hl : L[0]? = some (some (.ref a))) (h : x_V S 19 16 L (.ref a :: st) μ n Q) : x_V S 19 15 L (st) μ n Q := x_aload_n d19_15 hl h
theorem s19_15N {S : Nat × (Nat → Int32)} {L : List (Option Value)} {st : List Value} {n : Nat} {Q : xQ} {μ : xM} (hl : L[0]? = some (some .null)) (h : x_V S 19 16 L (.null :: st) μ n Q) : x_V S 19 15 L st μ n Q := x_aload_nN d19_15 hl h
theorem s19_16 {S : Nat × (Nat → Int32)} {L : List (Option Value)} {st : List Value} {n : Nat} {Q : xQ} {g : Nat → Nat → Int} {a : Nat} (hs : x_sh a = (7, 5)) (hp : x_pt a 3 = none) (ha : a ≠ x_out) (h : x_V S 19 19 L (.int (I (g a 3)) :: st) (x_vm g) n Q) : x_V S 19 16 L (.ref a :: st) (x_vm g) n Q := v_get (i := 3) cf7 d19_16 (by decide) w133 hs hp ha h
theorem s19_19 {S : Nat × (Nat → Int32)} {L : List (Option Value)} {st : List Value} {n : Nat} {Q : xQ} {μ : xM} {x y : Int} (h : x_V S 19 20 L (.int (I (x - y)) :: st) μ n Q) : x_V S 19 19 L (.int (I y) :: .int (I x) :: st) μ n Q := v_isub d19_19 h
theorem s19_20 {S : Nat × (Nat → Int32)} {L : List (Option Value)} {st : List Value} {n : Nat} {Q : xQ} {μ : xM} {x : Int32} (h : Q (.inl (some (.int x))) μ n) : x_V S 19 20 L (.int x :: []) μ n Q := x_ireturn d19_20 rfl rfl h
theorem mC_20 : mC 20 = prog_6_method_4_code := rfl
theorem d20_0 : decode (mC 20) 0 = .ok (.aload_n 0, 1) := by rw [mC_20]; decide +kernel
theorem d20_1 : decode (mC 20) 1 = .ok (.getfield 7, 3) := by rw [mC_20]; decide +kernel
theorem d20_4 : decode (mC 20) 4 = .ok (.ifCond .eq 5, 3) := by rw [mC_20]; decide +kernel
theorem d20_7 : decode (mC 20) 7 = .ok (.iconst 4, 1) := by rw [mC_20]; decide +kernel
theorem d20_8 : decode (mC 20) 8 = .ok (.ireturn, 1) := by rw [mC_20]; decide +kernel
theorem d20_9 : decode (mC 20) 9 = .ok (.aload_n 0, 1) := by rw [mC_20]; decide +kernel
theorem d20_10 : decode (mC 20) 10 = .ok (.getfield 13, 3) := by rw [mC_20]; decide +kernel
theorem d20_13 : decode (mC 20) 13 = .ok (.aload_n 0, 1) := by rw [mC_20]; decide +kernel
theorem d20_14 : decode (mC 20) 14 = .ok (.getfield 17, 3) := by rw [mC_20]; decide +kernel
theorem d20_17 : decode (mC 20) 17 = .ok (.if_icmp .ne 5, 3) := by rw [mC_20]; decide +kernel
theorem d20_20 : decode (mC 20) 20 = .ok (.iconst 2, 1) := by rw [mC_20]; decide +kernel
theorem d20_21 : decode (mC 20) 21 = .ok (.ireturn, 1) := by rw [mC_20]; decide +kernel
theorem d20_22 : decode (mC 20) 22 = .ok (.aload_n 0, 1) := by rw [mC_20]; decide +kernel
theorem d20_23 : decode (mC 20) 23 = .ok (.getfield 13, 3) := by rw [mC_20]; decide +kernel
theorem d20_26 : decode (mC 20) 26 = .ok (.ifCond .le 7, 3) := by rw [mC_20]; decide +kernel
theorem d20_29 : decode (mC 20) 29 = .ok (.iconst 1, 1) := by rw [mC_20]; decide +kernel
theorem d20_30 : decode (mC 20) 30 = .ok (.goto 4, 3) := by rw [mC_20]; decide +kernel
theorem d20_33 : decode (mC 20) 33 = .ok (.iconst 0, 1) := by rw [mC_20]; decide +kernel
theorem d20_34 : decode (mC 20) 34 = .ok (.ireturn, 1) := by rw [mC_20]; decide +kernel
theorem s20_0 {S : Nat × (Nat → Int32)} {L : List (Option Value)} {st : List Value} {n : Nat} {Q : xQ} {μ : xM} {a : Nat} (hl : L[0]? = some (some (.ref a))) (h : x_V S 20 1 L (.ref a :: st) μ n Q) : x_V S 20 0 L (st) μ n Q := x_aload_n d20_0 hl h
theorem s20_0N {S : Nat × (Nat → Int32)} {L : List (Option Value)} {st : List Value} {n : Nat} {Q : xQ} {μ : xM} (hl : L[0]? = some (some .null)) (h : x_V S 20 1 L (.null :: st) μ n Q) : x_V S 20 0 L st μ n Q := x_aload_nN d20_0 hl h
theorem s20_1 {S : Nat × (Nat → Int32)} {L : List (Option Value)} {st : List Value} {n : Nat} {Q : xQ} {g : Nat → Nat → Int} {a : Nat} (hs : x_sh a = (7, 5)) (hp : x_pt a 4 = none) (ha : a ≠ x_out) (h : x_V S 20 4 L (.int (I (g a 4)) :: st) (x_vm g) n Q) : x_V S 20 1 L (.ref a :: st) (x_vm g) n Q := v_get (i := 4) cf7 d20_1 (by decide) w137 hs hp ha h
theorem s20_4 {S : Nat × (Nat → Int32)} {L : List (Option Value)} {st : List Value} {n : Nat} {Q : xQ} {μ : xM} {x : Int} (hx : ib x) (kt : x = 0 → x_V S 20 9 L (st) μ n Q) (kf : x ≠ 0 → x_V S 20 7 L (st) μ n Q) : x_V S 20 4 L (.int (I x) :: st) μ n Q := v_if_eq d20_4 (by decide) hx kt kf
theorem s20_7 {S : Nat × (Nat → Int32)} {L : List (Option Value)} {st : List Value} {n : Nat} {Q : xQ} {μ : xM}  (h : x_V S 20 8 L (.int (I 4) :: st) μ n Q) : x_V S 20 7 L (st) μ n Q := x_iconst (by decide +kernel) d20_7 h
theorem s20_8 {S : Nat × (Nat → Int32)} {L : List (Option Value)} {st : List Value} {n : Nat} {Q : xQ} {μ : xM} {x : Int32} (h : Q (.inl (some (.int x))) μ n) : x_V S 20 8 L (.int x :: []) μ n Q := x_ireturn d20_8 rfl rfl h
theorem s20_9 {S : Nat × (Nat → Int32)} {L : List (Option Value)} {st : List Value} {n : Nat} {Q : xQ} {μ : xM} {a : Nat} (hl : L[0]? = some (some (.ref a))) (h : x_V S 20 10 L (.ref a :: st) μ n Q) : x_V S 20 9 L (st) μ n Q := x_aload_n d20_9 hl h
theorem s20_9N {S : Nat × (Nat → Int32)} {L : List (Option Value)} {st : List Value} {n : Nat} {Q : xQ} {μ : xM} (hl : L[0]? = some (some .null)) (h : x_V S 20 10 L (.null :: st) μ n Q) : x_V S 20 9 L st μ n Q := x_aload_nN d20_9 hl h
theorem s20_10 {S : Nat × (Nat → Int32)} {L : List (Option Value)} {st : List Value} {n : Nat} {Q : xQ} {g : Nat → Nat → Int} {a : Nat} (hs : x_sh a = (7, 5)) (hp : x_pt a 3 = none) (ha : a ≠ x_out) (h : x_V S 20 13 L (.int (I (g a 3)) :: st) (x_vm g) n Q) : x_V S 20 10 L (.ref a :: st) (x_vm g) n Q := v_get (i := 3) cf7 d20_10 (by decide) w133 hs hp ha h
theorem s20_13 {S : Nat × (Nat → Int32)} {L : List (Option Value)} {st : List Value} {n : Nat} {Q : xQ} {μ : xM} {a : Nat} (hl : L[0]? = some (some (.ref a))) (h : x_V S 20 14 L (.ref a :: st) μ n Q) : x_V S 20 13 L (st) μ n Q := x_aload_n d20_13 hl h
theorem s20_13N {S : Nat × (Nat → Int32)} {L : List (Option Value)} {st : List Value} {n : Nat} {Q : xQ} {μ : xM} (hl : L[0]? = some (some .null)) (h : x_V S 20 14 L (.null :: st) μ n Q) : x_V S 20 13 L st μ n Q := x_aload_nN d20_13 hl h
theorem s20_14 {S : Nat × (Nat → Int32)} {L : List (Option Value)} {st : List Value} {n : Nat} {Q : xQ} {g : Nat → Nat → Int} {a : Nat} (hs : x_sh a = (7, 5)) (hp : x_pt a 2 = none) (ha : a ≠ x_out) (h : x_V S 20 17 L (.int (I (g a 2)) :: st) (x_vm g) n Q) : x_V S 20 14 L (.ref a :: st) (x_vm g) n Q := v_get (i := 2) cf7 d20_14 (by decide) w130 hs hp ha h
theorem s20_17 {S : Nat × (Nat → Int32)} {L : List (Option Value)} {st : List Value} {n : Nat} {Q : xQ} {μ : xM} {x y : Int} (hx : ib x) (hy : ib y) (kt : x ≠ y → x_V S 20 22 L (st) μ n Q) (kf : x = y → x_V S 20 20 L (st) μ n Q) : x_V S 20 17 L (.int (I y) :: .int (I x) :: st) μ n Q := v_icmp_ne d20_17 (by decide) hx hy kt kf
theorem s20_20 {S : Nat × (Nat → Int32)} {L : List (Option Value)} {st : List Value} {n : Nat} {Q : xQ} {μ : xM}  (h : x_V S 20 21 L (.int (I 2) :: st) μ n Q) : x_V S 20 20 L (st) μ n Q := x_iconst (by decide +kernel) d20_20 h
theorem s20_21 {S : Nat × (Nat → Int32)} {L : List (Option Value)} {st : List Value} {n : Nat} {Q : xQ} {μ : xM} {x : Int32} (h : Q (.inl (some (.int x))) μ n) : x_V S 20 21 L (.int x :: []) μ n Q := x_ireturn d20_21 rfl rfl h
theorem s20_22 {S : Nat × (Nat → Int32)} {L : List (Option Value)} {st : List Value} {n : Nat} {Q : xQ} {μ : xM} {a : Nat} (hl : L[0]? = some (some (.ref a))) (h : x_V S 20 23 L (.ref a :: st) μ n Q) : x_V S 20 22 L (st) μ n Q := x_aload_n d20_22 hl h
theorem s20_22N {S : Nat × (Nat → Int32)} {L : List (Option Value)} {st : List Value} {n : Nat} {Q : xQ} {μ : xM} (hl : L[0]? = some (some .null)) (h : x_V S 20 23 L (.null :: st) μ n Q) : x_V S 20 22 L st μ n Q := x_aload_nN d20_22 hl h
theorem s20_23 {S : Nat × (Nat → Int32)} {L : List (Option Value)} {st : List Value} {n : Nat} {Q : xQ} {g : Nat → Nat → Int} {a : Nat} (hs : x_sh a = (7, 5)) (hp : x_pt a 3 = none) (ha : a ≠ x_out) (h : x_V S 20 26 L (.int (I (g a 3)) :: st) (x_vm g) n Q) : x_V S 20 23 L (.ref a :: st) (x_vm g) n Q := v_get (i := 3) cf7 d20_23 (by decide) w133 hs hp ha h
theorem s20_26 {S : Nat × (Nat → Int32)} {L : List (Option Value)} {st : List Value} {n : Nat} {Q : xQ} {μ : xM} {x : Int} (hx : ib x) (kt : x ≤ 0 → x_V S 20 33 L (st) μ n Q) (kf : 0 < x → x_V S 20 29 L (st) μ n Q) : x_V S 20 26 L (.int (I x) :: st) μ n Q := v_if_le d20_26 (by decide) hx kt kf
theorem s20_29 {S : Nat × (Nat → Int32)} {L : List (Option Value)} {st : List Value} {n : Nat} {Q : xQ} {μ : xM}  (h : x_V S 20 30 L (.int (I 1) :: st) μ n Q) : x_V S 20 29 L (st) μ n Q := x_iconst (by decide +kernel) d20_29 h
theorem s20_30 {S : Nat × (Nat → Int32)} {L : List (Option Value)} {st : List Value} {n : Nat} {Q : xQ} {μ : xM}  (h : x_V S 20 34 L (st) μ n Q) : x_V S 20 30 L (st) μ n Q := x_goto (tgt := 34) (by decide) d20_30 h
theorem s20_33 {S : Nat × (Nat → Int32)} {L : List (Option Value)} {st : List Value} {n : Nat} {Q : xQ} {μ : xM}  (h : x_V S 20 34 L (.int (I 0) :: st) μ n Q) : x_V S 20 33 L (st) μ n Q := x_iconst (by decide +kernel) d20_33 h
theorem s20_34 {S : Nat × (Nat → Int32)} {L : List (Option Value)} {st : List Value} {n : Nat} {Q : xQ} {μ : xM} {x : Int32} (h : Q (.inl (some (.int x))) μ n) : x_V S 20 34 L (.int x :: []) μ n Q := x_ireturn d20_34 rfl rfl h
