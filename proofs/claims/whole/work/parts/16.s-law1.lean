/-! 16.s-law1: decode rows and step rows of the law; laid by a program. -/
theorem mC_129 : mC 129 = method_3_code := rfl
theorem d129_0 : decode (mC 129) 0 = .ok (.aload 7, 2) := by rw [mC_129]; decide +kernel
theorem d129_2 : decode (mC 129) 2 = .ok (.iconst 0, 1) := by rw [mC_129]; decide +kernel
theorem d129_3 : decode (mC 129) 3 = .ok (.aload_n 0, 1) := by rw [mC_129]; decide +kernel
theorem d129_4 : decode (mC 129) 4 = .ok (.iload_n 1, 1) := by rw [mC_129]; decide +kernel
theorem d129_5 : decode (mC 129) 5 = .ok (.iload_n 2, 1) := by rw [mC_129]; decide +kernel
theorem d129_6 : decode (mC 129) 6 = .ok (.iload_n 3, 1) := by rw [mC_129]; decide +kernel
theorem d129_7 : decode (mC 129) 7 = .ok (.iload 4, 2) := by rw [mC_129]; decide +kernel
theorem d129_9 : decode (mC 129) 9 = .ok (.iload 5, 2) := by rw [mC_129]; decide +kernel
theorem d129_11 : decode (mC 129) 11 = .ok (.iload 6, 2) := by rw [mC_129]; decide +kernel
theorem d129_13 : decode (mC 129) 13 = .ok (.invokevirtual 7, 3) := by rw [mC_129]; decide +kernel
theorem d129_16 : decode (mC 129) 16 = .ok (.i2l, 1) := by rw [mC_129]; decide +kernel
theorem d129_17 : decode (mC 129) 17 = .ok (.lastore, 1) := by rw [mC_129]; decide +kernel
theorem d129_18 : decode (mC 129) 18 = .ok (.goto 7, 3) := by rw [mC_129]; decide +kernel
theorem d129_21 : decode (mC 129) 21 = .ok (.astore 8, 2) := by rw [mC_129]; decide +kernel
theorem d129_23 : decode (mC 129) 23 = .ok (.iconst 1, 1) := by rw [mC_129]; decide +kernel
theorem d129_24 : decode (mC 129) 24 = .ok (.ireturn, 1) := by rw [mC_129]; decide +kernel
theorem d129_25 : decode (mC 129) 25 = .ok (.iconst 0, 1) := by rw [mC_129]; decide +kernel
theorem d129_26 : decode (mC 129) 26 = .ok (.ireturn, 1) := by rw [mC_129]; decide +kernel
theorem s129_0 {S : Nat × (Nat → Int32)} {L : List (Option Value)} {st : List Value} {n : Nat} {Q : xQ} {μ : xM} {a : Nat} (hl : L[7]? = some (some (.ref a))) (h : x_V S 129 2 L (.ref a :: st) μ n Q) : x_V S 129 0 L (st) μ n Q := x_aload d129_0 hl h
theorem s129_0N {S : Nat × (Nat → Int32)} {L : List (Option Value)} {st : List Value} {n : Nat} {Q : xQ} {μ : xM} (hl : L[7]? = some (some .null)) (h : x_V S 129 2 L (.null :: st) μ n Q) : x_V S 129 0 L st μ n Q := x_aloadN d129_0 hl h
theorem s129_2 {S : Nat × (Nat → Int32)} {L : List (Option Value)} {st : List Value} {n : Nat} {Q : xQ} {μ : xM}  (h : x_V S 129 3 L (.int (I 0) :: st) μ n Q) : x_V S 129 2 L (st) μ n Q := x_iconst (by decide +kernel) d129_2 h
theorem s129_3 {S : Nat × (Nat → Int32)} {L : List (Option Value)} {st : List Value} {n : Nat} {Q : xQ} {μ : xM} {a : Nat} (hl : L[0]? = some (some (.ref a))) (h : x_V S 129 4 L (.ref a :: st) μ n Q) : x_V S 129 3 L (st) μ n Q := x_aload_n d129_3 hl h
theorem s129_3N {S : Nat × (Nat → Int32)} {L : List (Option Value)} {st : List Value} {n : Nat} {Q : xQ} {μ : xM} (hl : L[0]? = some (some .null)) (h : x_V S 129 4 L (.null :: st) μ n Q) : x_V S 129 3 L st μ n Q := x_aload_nN d129_3 hl h
theorem s129_4 {S : Nat × (Nat → Int32)} {L : List (Option Value)} {st : List Value} {n : Nat} {Q : xQ} {μ : xM} {x : Int32} (hl : L[1]? = some (some (.int x))) (h : x_V S 129 5 L (.int x :: st) μ n Q) : x_V S 129 4 L (st) μ n Q := x_iload_n d129_4 hl h
theorem s129_5 {S : Nat × (Nat → Int32)} {L : List (Option Value)} {st : List Value} {n : Nat} {Q : xQ} {μ : xM} {x : Int32} (hl : L[2]? = some (some (.int x))) (h : x_V S 129 6 L (.int x :: st) μ n Q) : x_V S 129 5 L (st) μ n Q := x_iload_n d129_5 hl h
theorem s129_6 {S : Nat × (Nat → Int32)} {L : List (Option Value)} {st : List Value} {n : Nat} {Q : xQ} {μ : xM} {x : Int32} (hl : L[3]? = some (some (.int x))) (h : x_V S 129 7 L (.int x :: st) μ n Q) : x_V S 129 6 L (st) μ n Q := x_iload_n d129_6 hl h
theorem s129_7 {S : Nat × (Nat → Int32)} {L : List (Option Value)} {st : List Value} {n : Nat} {Q : xQ} {μ : xM} {x : Int32} (hl : L[4]? = some (some (.int x))) (h : x_V S 129 9 L (.int x :: st) μ n Q) : x_V S 129 7 L (st) μ n Q := x_iload d129_7 hl h
theorem s129_9 {S : Nat × (Nat → Int32)} {L : List (Option Value)} {st : List Value} {n : Nat} {Q : xQ} {μ : xM} {x : Int32} (hl : L[5]? = some (some (.int x))) (h : x_V S 129 11 L (.int x :: st) μ n Q) : x_V S 129 9 L (st) μ n Q := x_iload d129_9 hl h
theorem s129_11 {S : Nat × (Nat → Int32)} {L : List (Option Value)} {st : List Value} {n : Nat} {Q : xQ} {μ : xM} {x : Int32} (hl : L[6]? = some (some (.int x))) (h : x_V S 129 13 L (.int x :: st) μ n Q) : x_V S 129 11 L (st) μ n Q := x_iload d129_11 hl h
theorem s129_13 {S : Nat × (Nat → Int32)} {L : List (Option Value)} {st : List Value} {n : Nat} {Q : xQ} {μ : xM} {x0 : Int32} {x1 : Int32} {x2 : Int32} {x3 : Int32} {x4 : Int32} {x5 : Int32} {a : Nat} (hs : x_sh a = (0, 3)) (hst : st.length ≤ 4) (h : x_V S 70 0 [some (.ref a), some (.int x0), some (.int x1), some (.int x2), some (.int x3), some (.int x4), some (.int x5)] [] μ n (x_bt S 129 13 L st Q)) : x_V S 129 13 L (.int x5 :: .int x4 :: .int x3 :: .int x2 :: .int x1 :: .int x0 :: .ref a :: st) μ n Q := x_callVT (k' := 70) (as := [.int x0, .int x1, .int x2, .int x3, .int x4, .int x5]) (na := 6) d129_13 ⟨w293, by decide +kernel, by decide, by decide, by decide, by decide, by decide⟩ cf0 w290 w291 w292 (by decide +kernel) rfl hs (fun v hv => by
    simp only [List.mem_cons, List.not_mem_nil, or_false] at hv
    rcases hv with rfl | rfl | rfl | rfl | rfl | rfl <;> first | rfl | assumption) hst h
theorem s129_16 {S : Nat × (Nat → Int32)} {L : List (Option Value)} {st : List Value} {n : Nat} {Q : xQ} {μ : xM} {x : Int32} (h : x_V S 129 17 L (.long x.toInt64 :: st) μ n Q) : x_V S 129 16 L (.int x :: st) μ n Q := x_i2l d129_16 h
theorem s129_18 {S : Nat × (Nat → Int32)} {L : List (Option Value)} {st : List Value} {n : Nat} {Q : xQ} {μ : xM}  (h : x_V S 129 25 L (st) μ n Q) : x_V S 129 18 L (st) μ n Q := x_goto (tgt := 25) (by decide) d129_18 h
theorem s129_21 {S : Nat × (Nat → Int32)} {L : List (Option Value)} {st : List Value} {n : Nat} {Q : xQ} {μ : xM} {a : Nat} (h : x_V S 129 23 (L.set 8 (some (.ref a))) (st) μ n Q) : x_V S 129 21 L (.ref a :: st) μ n Q := x_astore d129_21 (by decide) h
theorem s129_21N {S : Nat × (Nat → Int32)} {L : List (Option Value)} {st : List Value} {n : Nat} {Q : xQ} {μ : xM} (h : x_V S 129 23 (L.set 8 (some .null)) (st) μ n Q) : x_V S 129 21 L (.null :: st) μ n Q := x_astoreN d129_21 (by decide) h
theorem s129_23 {S : Nat × (Nat → Int32)} {L : List (Option Value)} {st : List Value} {n : Nat} {Q : xQ} {μ : xM}  (h : x_V S 129 24 L (.int (I 1) :: st) μ n Q) : x_V S 129 23 L (st) μ n Q := x_iconst (by decide +kernel) d129_23 h
theorem s129_24 {S : Nat × (Nat → Int32)} {L : List (Option Value)} {st : List Value} {n : Nat} {Q : xQ} {μ : xM} {x : Int32} (h : Q (.inl (some (.int x))) μ n) : x_V S 129 24 L (.int x :: []) μ n Q := x_ireturn d129_24 rfl rfl h
theorem s129_25 {S : Nat × (Nat → Int32)} {L : List (Option Value)} {st : List Value} {n : Nat} {Q : xQ} {μ : xM}  (h : x_V S 129 26 L (.int (I 0) :: st) μ n Q) : x_V S 129 25 L (st) μ n Q := x_iconst (by decide +kernel) d129_25 h
theorem s129_26 {S : Nat × (Nat → Int32)} {L : List (Option Value)} {st : List Value} {n : Nat} {Q : xQ} {μ : xM} {x : Int32} (h : Q (.inl (some (.int x))) μ n) : x_V S 129 26 L (.int x :: []) μ n Q := x_ireturn d129_26 rfl rfl h
theorem mC_130 : mC 130 = method_4_code := rfl
theorem d130_0 : decode (mC 130) 0 = .ok (.aload_n 3, 1) := by rw [mC_130]; decide +kernel
theorem d130_1 : decode (mC 130) 1 = .ok (.iconst 0, 1) := by rw [mC_130]; decide +kernel
theorem d130_2 : decode (mC 130) 2 = .ok (.aload_n 0, 1) := by rw [mC_130]; decide +kernel
theorem d130_3 : decode (mC 130) 3 = .ok (.iload_n 1, 1) := by rw [mC_130]; decide +kernel
theorem d130_4 : decode (mC 130) 4 = .ok (.iload_n 2, 1) := by rw [mC_130]; decide +kernel
theorem d130_5 : decode (mC 130) 5 = .ok (.invokevirtual 15, 3) := by rw [mC_130]; decide +kernel
theorem d130_8 : decode (mC 130) 8 = .ok (.i2l, 1) := by rw [mC_130]; decide +kernel
theorem d130_9 : decode (mC 130) 9 = .ok (.lastore, 1) := by rw [mC_130]; decide +kernel
theorem d130_10 : decode (mC 130) 10 = .ok (.goto 11, 3) := by rw [mC_130]; decide +kernel
theorem d130_13 : decode (mC 130) 13 = .ok (.astore 4, 2) := by rw [mC_130]; decide +kernel
theorem d130_15 : decode (mC 130) 15 = .ok (.iconst 1, 1) := by rw [mC_130]; decide +kernel
theorem d130_16 : decode (mC 130) 16 = .ok (.ireturn, 1) := by rw [mC_130]; decide +kernel
theorem d130_17 : decode (mC 130) 17 = .ok (.astore 4, 2) := by rw [mC_130]; decide +kernel
theorem d130_19 : decode (mC 130) 19 = .ok (.iconst 2, 1) := by rw [mC_130]; decide +kernel
theorem d130_20 : decode (mC 130) 20 = .ok (.ireturn, 1) := by rw [mC_130]; decide +kernel
theorem d130_21 : decode (mC 130) 21 = .ok (.iconst 0, 1) := by rw [mC_130]; decide +kernel
theorem d130_22 : decode (mC 130) 22 = .ok (.ireturn, 1) := by rw [mC_130]; decide +kernel
theorem s130_0 {S : Nat × (Nat → Int32)} {L : List (Option Value)} {st : List Value} {n : Nat} {Q : xQ} {μ : xM} {a : Nat} (hl : L[3]? = some (some (.ref a))) (h : x_V S 130 1 L (.ref a :: st) μ n Q) : x_V S 130 0 L (st) μ n Q := x_aload_n d130_0 hl h
theorem s130_0N {S : Nat × (Nat → Int32)} {L : List (Option Value)} {st : List Value} {n : Nat} {Q : xQ} {μ : xM} (hl : L[3]? = some (some .null)) (h : x_V S 130 1 L (.null :: st) μ n Q) : x_V S 130 0 L st μ n Q := x_aload_nN d130_0 hl h
theorem s130_1 {S : Nat × (Nat → Int32)} {L : List (Option Value)} {st : List Value} {n : Nat} {Q : xQ} {μ : xM}  (h : x_V S 130 2 L (.int (I 0) :: st) μ n Q) : x_V S 130 1 L (st) μ n Q := x_iconst (by decide +kernel) d130_1 h
theorem s130_2 {S : Nat × (Nat → Int32)} {L : List (Option Value)} {st : List Value} {n : Nat} {Q : xQ} {μ : xM} {a : Nat} (hl : L[0]? = some (some (.ref a))) (h : x_V S 130 3 L (.ref a :: st) μ n Q) : x_V S 130 2 L (st) μ n Q := x_aload_n d130_2 hl h
theorem s130_2N {S : Nat × (Nat → Int32)} {L : List (Option Value)} {st : List Value} {n : Nat} {Q : xQ} {μ : xM} (hl : L[0]? = some (some .null)) (h : x_V S 130 3 L (.null :: st) μ n Q) : x_V S 130 2 L st μ n Q := x_aload_nN d130_2 hl h
theorem s130_3 {S : Nat × (Nat → Int32)} {L : List (Option Value)} {st : List Value} {n : Nat} {Q : xQ} {μ : xM} {x : Int32} (hl : L[1]? = some (some (.int x))) (h : x_V S 130 4 L (.int x :: st) μ n Q) : x_V S 130 3 L (st) μ n Q := x_iload_n d130_3 hl h
theorem s130_4 {S : Nat × (Nat → Int32)} {L : List (Option Value)} {st : List Value} {n : Nat} {Q : xQ} {μ : xM} {x : Int32} (hl : L[2]? = some (some (.int x))) (h : x_V S 130 5 L (.int x :: st) μ n Q) : x_V S 130 4 L (st) μ n Q := x_iload_n d130_4 hl h
theorem s130_5 {S : Nat × (Nat → Int32)} {L : List (Option Value)} {st : List Value} {n : Nat} {Q : xQ} {μ : xM} {x0 : Int32} {x1 : Int32} {a : Nat} (hs : x_sh a = (0, 3)) (hst : st.length ≤ 4) (h : x_V S 71 0 [some (.ref a), some (.int x0), some (.int x1)] [] μ n (x_bt S 130 5 L st Q)) : x_V S 130 5 L (.int x1 :: .int x0 :: .ref a :: st) μ n Q := x_callVT (k' := 71) (as := [.int x0, .int x1]) (na := 2) d130_5 ⟨w434, by decide +kernel, by decide, by decide, by decide, by decide, by decide⟩ cf0 w431 w432 w433 (by decide +kernel) rfl hs (fun v hv => by
    simp only [List.mem_cons, List.not_mem_nil, or_false] at hv
    rcases hv with rfl | rfl <;> first | rfl | assumption) hst h
theorem s130_8 {S : Nat × (Nat → Int32)} {L : List (Option Value)} {st : List Value} {n : Nat} {Q : xQ} {μ : xM} {x : Int32} (h : x_V S 130 9 L (.long x.toInt64 :: st) μ n Q) : x_V S 130 8 L (.int x :: st) μ n Q := x_i2l d130_8 h
theorem s130_10 {S : Nat × (Nat → Int32)} {L : List (Option Value)} {st : List Value} {n : Nat} {Q : xQ} {μ : xM}  (h : x_V S 130 21 L (st) μ n Q) : x_V S 130 10 L (st) μ n Q := x_goto (tgt := 21) (by decide) d130_10 h
theorem s130_13 {S : Nat × (Nat → Int32)} {L : List (Option Value)} {st : List Value} {n : Nat} {Q : xQ} {μ : xM} {a : Nat} (h : x_V S 130 15 (L.set 4 (some (.ref a))) (st) μ n Q) : x_V S 130 13 L (.ref a :: st) μ n Q := x_astore d130_13 (by decide) h
theorem s130_13N {S : Nat × (Nat → Int32)} {L : List (Option Value)} {st : List Value} {n : Nat} {Q : xQ} {μ : xM} (h : x_V S 130 15 (L.set 4 (some .null)) (st) μ n Q) : x_V S 130 13 L (.null :: st) μ n Q := x_astoreN d130_13 (by decide) h
theorem s130_15 {S : Nat × (Nat → Int32)} {L : List (Option Value)} {st : List Value} {n : Nat} {Q : xQ} {μ : xM}  (h : x_V S 130 16 L (.int (I 1) :: st) μ n Q) : x_V S 130 15 L (st) μ n Q := x_iconst (by decide +kernel) d130_15 h
theorem s130_16 {S : Nat × (Nat → Int32)} {L : List (Option Value)} {st : List Value} {n : Nat} {Q : xQ} {μ : xM} {x : Int32} (h : Q (.inl (some (.int x))) μ n) : x_V S 130 16 L (.int x :: []) μ n Q := x_ireturn d130_16 rfl rfl h
theorem s130_17 {S : Nat × (Nat → Int32)} {L : List (Option Value)} {st : List Value} {n : Nat} {Q : xQ} {μ : xM} {a : Nat} (h : x_V S 130 19 (L.set 4 (some (.ref a))) (st) μ n Q) : x_V S 130 17 L (.ref a :: st) μ n Q := x_astore d130_17 (by decide) h
theorem s130_17N {S : Nat × (Nat → Int32)} {L : List (Option Value)} {st : List Value} {n : Nat} {Q : xQ} {μ : xM} (h : x_V S 130 19 (L.set 4 (some .null)) (st) μ n Q) : x_V S 130 17 L (.null :: st) μ n Q := x_astoreN d130_17 (by decide) h
theorem s130_19 {S : Nat × (Nat → Int32)} {L : List (Option Value)} {st : List Value} {n : Nat} {Q : xQ} {μ : xM}  (h : x_V S 130 20 L (.int (I 2) :: st) μ n Q) : x_V S 130 19 L (st) μ n Q := x_iconst (by decide +kernel) d130_19 h
theorem s130_20 {S : Nat × (Nat → Int32)} {L : List (Option Value)} {st : List Value} {n : Nat} {Q : xQ} {μ : xM} {x : Int32} (h : Q (.inl (some (.int x))) μ n) : x_V S 130 20 L (.int x :: []) μ n Q := x_ireturn d130_20 rfl rfl h
theorem s130_21 {S : Nat × (Nat → Int32)} {L : List (Option Value)} {st : List Value} {n : Nat} {Q : xQ} {μ : xM}  (h : x_V S 130 22 L (.int (I 0) :: st) μ n Q) : x_V S 130 21 L (st) μ n Q := x_iconst (by decide +kernel) d130_21 h
theorem s130_22 {S : Nat × (Nat → Int32)} {L : List (Option Value)} {st : List Value} {n : Nat} {Q : xQ} {μ : xM} {x : Int32} (h : Q (.inl (some (.int x))) μ n) : x_V S 130 22 L (.int x :: []) μ n Q := x_ireturn d130_22 rfl rfl h
theorem mC_131 : mC 131 = method_5_code := rfl
theorem d131_0 : decode (mC 131) 0 = .ok (.aload_n 2, 1) := by rw [mC_131]; decide +kernel
theorem d131_1 : decode (mC 131) 1 = .ok (.iconst 0, 1) := by rw [mC_131]; decide +kernel
theorem d131_2 : decode (mC 131) 2 = .ok (.aload_n 0, 1) := by rw [mC_131]; decide +kernel
theorem d131_3 : decode (mC 131) 3 = .ok (.iload_n 1, 1) := by rw [mC_131]; decide +kernel
theorem d131_4 : decode (mC 131) 4 = .ok (.invokevirtual 21, 3) := by rw [mC_131]; decide +kernel
theorem d131_7 : decode (mC 131) 7 = .ok (.i2l, 1) := by rw [mC_131]; decide +kernel
theorem d131_8 : decode (mC 131) 8 = .ok (.lastore, 1) := by rw [mC_131]; decide +kernel
theorem d131_9 : decode (mC 131) 9 = .ok (.goto 9, 3) := by rw [mC_131]; decide +kernel
theorem d131_12 : decode (mC 131) 12 = .ok (.astore_n 3, 1) := by rw [mC_131]; decide +kernel
theorem d131_13 : decode (mC 131) 13 = .ok (.iconst 1, 1) := by rw [mC_131]; decide +kernel
theorem d131_14 : decode (mC 131) 14 = .ok (.ireturn, 1) := by rw [mC_131]; decide +kernel
theorem d131_15 : decode (mC 131) 15 = .ok (.astore_n 3, 1) := by rw [mC_131]; decide +kernel
theorem d131_16 : decode (mC 131) 16 = .ok (.iconst 2, 1) := by rw [mC_131]; decide +kernel
theorem d131_17 : decode (mC 131) 17 = .ok (.ireturn, 1) := by rw [mC_131]; decide +kernel
theorem d131_18 : decode (mC 131) 18 = .ok (.iconst 0, 1) := by rw [mC_131]; decide +kernel
theorem d131_19 : decode (mC 131) 19 = .ok (.ireturn, 1) := by rw [mC_131]; decide +kernel
theorem s131_0 {S : Nat × (Nat → Int32)} {L : List (Option Value)} {st : List Value} {n : Nat} {Q : xQ} {μ : xM} {a : Nat} (hl : L[2]? = some (some (.ref a))) (h : x_V S 131 1 L (.ref a :: st) μ n Q) : x_V S 131 0 L (st) μ n Q := x_aload_n d131_0 hl h
theorem s131_0N {S : Nat × (Nat → Int32)} {L : List (Option Value)} {st : List Value} {n : Nat} {Q : xQ} {μ : xM} (hl : L[2]? = some (some .null)) (h : x_V S 131 1 L (.null :: st) μ n Q) : x_V S 131 0 L st μ n Q := x_aload_nN d131_0 hl h
theorem s131_1 {S : Nat × (Nat → Int32)} {L : List (Option Value)} {st : List Value} {n : Nat} {Q : xQ} {μ : xM}  (h : x_V S 131 2 L (.int (I 0) :: st) μ n Q) : x_V S 131 1 L (st) μ n Q := x_iconst (by decide +kernel) d131_1 h
theorem s131_2 {S : Nat × (Nat → Int32)} {L : List (Option Value)} {st : List Value} {n : Nat} {Q : xQ} {μ : xM} {a : Nat} (hl : L[0]? = some (some (.ref a))) (h : x_V S 131 3 L (.ref a :: st) μ n Q) : x_V S 131 2 L (st) μ n Q := x_aload_n d131_2 hl h
theorem s131_2N {S : Nat × (Nat → Int32)} {L : List (Option Value)} {st : List Value} {n : Nat} {Q : xQ} {μ : xM} (hl : L[0]? = some (some .null)) (h : x_V S 131 3 L (.null :: st) μ n Q) : x_V S 131 2 L st μ n Q := x_aload_nN d131_2 hl h
theorem s131_3 {S : Nat × (Nat → Int32)} {L : List (Option Value)} {st : List Value} {n : Nat} {Q : xQ} {μ : xM} {x : Int32} (hl : L[1]? = some (some (.int x))) (h : x_V S 131 4 L (.int x :: st) μ n Q) : x_V S 131 3 L (st) μ n Q := x_iload_n d131_3 hl h
theorem s131_4 {S : Nat × (Nat → Int32)} {L : List (Option Value)} {st : List Value} {n : Nat} {Q : xQ} {μ : xM} {x0 : Int32} {a : Nat} (hs : x_sh a = (0, 3)) (hst : st.length ≤ 4) (h : x_V S 72 0 [some (.ref a), some (.int x0)] [] μ n (x_bt S 131 4 L st Q)) : x_V S 131 4 L (.int x0 :: .ref a :: st) μ n Q := x_callVT (k' := 72) (as := [.int x0]) (na := 1) d131_4 ⟨w463, by decide +kernel, by decide, by decide, by decide, by decide, by decide⟩ cf0 w460 w461 w462 (by decide +kernel) rfl hs (fun v hv => by
    simp only [List.mem_cons, List.not_mem_nil, or_false] at hv
    rcases hv with rfl <;> first | rfl | assumption) hst h
theorem s131_7 {S : Nat × (Nat → Int32)} {L : List (Option Value)} {st : List Value} {n : Nat} {Q : xQ} {μ : xM} {x : Int32} (h : x_V S 131 8 L (.long x.toInt64 :: st) μ n Q) : x_V S 131 7 L (.int x :: st) μ n Q := x_i2l d131_7 h
theorem s131_9 {S : Nat × (Nat → Int32)} {L : List (Option Value)} {st : List Value} {n : Nat} {Q : xQ} {μ : xM}  (h : x_V S 131 18 L (st) μ n Q) : x_V S 131 9 L (st) μ n Q := x_goto (tgt := 18) (by decide) d131_9 h
theorem s131_12 {S : Nat × (Nat → Int32)} {L : List (Option Value)} {st : List Value} {n : Nat} {Q : xQ} {μ : xM} {a : Nat} (h : x_V S 131 13 (L.set 3 (some (.ref a))) (st) μ n Q) : x_V S 131 12 L (.ref a :: st) μ n Q := x_astore_n d131_12 (by decide) h
theorem s131_12N {S : Nat × (Nat → Int32)} {L : List (Option Value)} {st : List Value} {n : Nat} {Q : xQ} {μ : xM} (h : x_V S 131 13 (L.set 3 (some .null)) (st) μ n Q) : x_V S 131 12 L (.null :: st) μ n Q := x_astore_nN d131_12 (by decide) h
theorem s131_13 {S : Nat × (Nat → Int32)} {L : List (Option Value)} {st : List Value} {n : Nat} {Q : xQ} {μ : xM}  (h : x_V S 131 14 L (.int (I 1) :: st) μ n Q) : x_V S 131 13 L (st) μ n Q := x_iconst (by decide +kernel) d131_13 h
theorem s131_14 {S : Nat × (Nat → Int32)} {L : List (Option Value)} {st : List Value} {n : Nat} {Q : xQ} {μ : xM} {x : Int32} (h : Q (.inl (some (.int x))) μ n) : x_V S 131 14 L (.int x :: []) μ n Q := x_ireturn d131_14 rfl rfl h
theorem s131_15 {S : Nat × (Nat → Int32)} {L : List (Option Value)} {st : List Value} {n : Nat} {Q : xQ} {μ : xM} {a : Nat} (h : x_V S 131 16 (L.set 3 (some (.ref a))) (st) μ n Q) : x_V S 131 15 L (.ref a :: st) μ n Q := x_astore_n d131_15 (by decide) h
theorem s131_15N {S : Nat × (Nat → Int32)} {L : List (Option Value)} {st : List Value} {n : Nat} {Q : xQ} {μ : xM} (h : x_V S 131 16 (L.set 3 (some .null)) (st) μ n Q) : x_V S 131 15 L (.null :: st) μ n Q := x_astore_nN d131_15 (by decide) h
theorem s131_16 {S : Nat × (Nat → Int32)} {L : List (Option Value)} {st : List Value} {n : Nat} {Q : xQ} {μ : xM}  (h : x_V S 131 17 L (.int (I 2) :: st) μ n Q) : x_V S 131 16 L (st) μ n Q := x_iconst (by decide +kernel) d131_16 h
theorem s131_17 {S : Nat × (Nat → Int32)} {L : List (Option Value)} {st : List Value} {n : Nat} {Q : xQ} {μ : xM} {x : Int32} (h : Q (.inl (some (.int x))) μ n) : x_V S 131 17 L (.int x :: []) μ n Q := x_ireturn d131_17 rfl rfl h
theorem s131_18 {S : Nat × (Nat → Int32)} {L : List (Option Value)} {st : List Value} {n : Nat} {Q : xQ} {μ : xM}  (h : x_V S 131 19 L (.int (I 0) :: st) μ n Q) : x_V S 131 18 L (st) μ n Q := x_iconst (by decide +kernel) d131_18 h
theorem s131_19 {S : Nat × (Nat → Int32)} {L : List (Option Value)} {st : List Value} {n : Nat} {Q : xQ} {μ : xM} {x : Int32} (h : Q (.inl (some (.int x))) μ n) : x_V S 131 19 L (.int x :: []) μ n Q := x_ireturn d131_19 rfl rfl h
theorem mC_132 : mC 132 = method_6_code := rfl
theorem d132_0 : decode (mC 132) 0 = .ok (.aload_n 1, 1) := by rw [mC_132]; decide +kernel
theorem d132_1 : decode (mC 132) 1 = .ok (.iconst 0, 1) := by rw [mC_132]; decide +kernel
theorem d132_2 : decode (mC 132) 2 = .ok (.aload_n 0, 1) := by rw [mC_132]; decide +kernel
theorem d132_3 : decode (mC 132) 3 = .ok (.invokevirtual 27, 3) := by rw [mC_132]; decide +kernel
theorem d132_6 : decode (mC 132) 6 = .ok (.i2l, 1) := by rw [mC_132]; decide +kernel
theorem d132_7 : decode (mC 132) 7 = .ok (.lastore, 1) := by rw [mC_132]; decide +kernel
theorem d132_8 : decode (mC 132) 8 = .ok (.goto 6, 3) := by rw [mC_132]; decide +kernel
theorem d132_11 : decode (mC 132) 11 = .ok (.astore_n 2, 1) := by rw [mC_132]; decide +kernel
theorem d132_12 : decode (mC 132) 12 = .ok (.iconst 1, 1) := by rw [mC_132]; decide +kernel
theorem d132_13 : decode (mC 132) 13 = .ok (.ireturn, 1) := by rw [mC_132]; decide +kernel
theorem d132_14 : decode (mC 132) 14 = .ok (.iconst 0, 1) := by rw [mC_132]; decide +kernel
theorem d132_15 : decode (mC 132) 15 = .ok (.ireturn, 1) := by rw [mC_132]; decide +kernel
theorem s132_0 {S : Nat × (Nat → Int32)} {L : List (Option Value)} {st : List Value} {n : Nat} {Q : xQ} {μ : xM} {a : Nat} (hl : L[1]? = some (some (.ref a))) (h : x_V S 132 1 L (.ref a :: st) μ n Q) : x_V S 132 0 L (st) μ n Q := x_aload_n d132_0 hl h
theorem s132_0N {S : Nat × (Nat → Int32)} {L : List (Option Value)} {st : List Value} {n : Nat} {Q : xQ} {μ : xM} (hl : L[1]? = some (some .null)) (h : x_V S 132 1 L (.null :: st) μ n Q) : x_V S 132 0 L st μ n Q := x_aload_nN d132_0 hl h
theorem s132_1 {S : Nat × (Nat → Int32)} {L : List (Option Value)} {st : List Value} {n : Nat} {Q : xQ} {μ : xM}  (h : x_V S 132 2 L (.int (I 0) :: st) μ n Q) : x_V S 132 1 L (st) μ n Q := x_iconst (by decide +kernel) d132_1 h
theorem s132_2 {S : Nat × (Nat → Int32)} {L : List (Option Value)} {st : List Value} {n : Nat} {Q : xQ} {μ : xM} {a : Nat} (hl : L[0]? = some (some (.ref a))) (h : x_V S 132 3 L (.ref a :: st) μ n Q) : x_V S 132 2 L (st) μ n Q := x_aload_n d132_2 hl h
theorem s132_2N {S : Nat × (Nat → Int32)} {L : List (Option Value)} {st : List Value} {n : Nat} {Q : xQ} {μ : xM} (hl : L[0]? = some (some .null)) (h : x_V S 132 3 L (.null :: st) μ n Q) : x_V S 132 2 L st μ n Q := x_aload_nN d132_2 hl h
theorem s132_3 {S : Nat × (Nat → Int32)} {L : List (Option Value)} {st : List Value} {n : Nat} {Q : xQ} {μ : xM}  {a : Nat} (hs : x_sh a = (0, 3)) (hst : st.length ≤ 4) (h : x_V S 73 0 [some (.ref a), none] [] μ n (x_bt S 132 3 L st Q)) : x_V S 132 3 L (.ref a :: st) μ n Q := x_callVT (k' := 73) (as := []) (na := 0) d132_3 ⟨w490, by decide +kernel, by decide, by decide, by decide, by decide, by decide⟩ cf0 w487 w488 w489 (by decide +kernel) rfl hs (fun v hv => by
    cases hv) hst h
theorem s132_6 {S : Nat × (Nat → Int32)} {L : List (Option Value)} {st : List Value} {n : Nat} {Q : xQ} {μ : xM} {x : Int32} (h : x_V S 132 7 L (.long x.toInt64 :: st) μ n Q) : x_V S 132 6 L (.int x :: st) μ n Q := x_i2l d132_6 h
theorem s132_8 {S : Nat × (Nat → Int32)} {L : List (Option Value)} {st : List Value} {n : Nat} {Q : xQ} {μ : xM}  (h : x_V S 132 14 L (st) μ n Q) : x_V S 132 8 L (st) μ n Q := x_goto (tgt := 14) (by decide) d132_8 h
theorem s132_11 {S : Nat × (Nat → Int32)} {L : List (Option Value)} {st : List Value} {n : Nat} {Q : xQ} {μ : xM} {a : Nat} (h : x_V S 132 12 (L.set 2 (some (.ref a))) (st) μ n Q) : x_V S 132 11 L (.ref a :: st) μ n Q := x_astore_n d132_11 (by decide) h
theorem s132_11N {S : Nat × (Nat → Int32)} {L : List (Option Value)} {st : List Value} {n : Nat} {Q : xQ} {μ : xM} (h : x_V S 132 12 (L.set 2 (some .null)) (st) μ n Q) : x_V S 132 11 L (.null :: st) μ n Q := x_astore_nN d132_11 (by decide) h
theorem s132_12 {S : Nat × (Nat → Int32)} {L : List (Option Value)} {st : List Value} {n : Nat} {Q : xQ} {μ : xM}  (h : x_V S 132 13 L (.int (I 1) :: st) μ n Q) : x_V S 132 12 L (st) μ n Q := x_iconst (by decide +kernel) d132_12 h
theorem s132_13 {S : Nat × (Nat → Int32)} {L : List (Option Value)} {st : List Value} {n : Nat} {Q : xQ} {μ : xM} {x : Int32} (h : Q (.inl (some (.int x))) μ n) : x_V S 132 13 L (.int x :: []) μ n Q := x_ireturn d132_13 rfl rfl h
theorem s132_14 {S : Nat × (Nat → Int32)} {L : List (Option Value)} {st : List Value} {n : Nat} {Q : xQ} {μ : xM}  (h : x_V S 132 15 L (.int (I 0) :: st) μ n Q) : x_V S 132 14 L (st) μ n Q := x_iconst (by decide +kernel) d132_14 h
theorem s132_15 {S : Nat × (Nat → Int32)} {L : List (Option Value)} {st : List Value} {n : Nat} {Q : xQ} {μ : xM} {x : Int32} (h : Q (.inl (some (.int x))) μ n) : x_V S 132 15 L (.int x :: []) μ n Q := x_ireturn d132_15 rfl rfl h
theorem mC_133 : mC 133 = method_7_code := rfl
theorem d133_0 : decode (mC 133) 0 = .ok (.aload_n 3, 1) := by rw [mC_133]; decide +kernel
theorem d133_1 : decode (mC 133) 1 = .ok (.iconst 0, 1) := by rw [mC_133]; decide +kernel
theorem d133_2 : decode (mC 133) 2 = .ok (.aload_n 0, 1) := by rw [mC_133]; decide +kernel
theorem d133_3 : decode (mC 133) 3 = .ok (.iload_n 1, 1) := by rw [mC_133]; decide +kernel
theorem d133_4 : decode (mC 133) 4 = .ok (.iload_n 2, 1) := by rw [mC_133]; decide +kernel
theorem d133_5 : decode (mC 133) 5 = .ok (.invokevirtual 31, 3) := by rw [mC_133]; decide +kernel
theorem d133_8 : decode (mC 133) 8 = .ok (.i2l, 1) := by rw [mC_133]; decide +kernel
theorem d133_9 : decode (mC 133) 9 = .ok (.lastore, 1) := by rw [mC_133]; decide +kernel
theorem d133_10 : decode (mC 133) 10 = .ok (.goto 11, 3) := by rw [mC_133]; decide +kernel
theorem d133_13 : decode (mC 133) 13 = .ok (.astore 4, 2) := by rw [mC_133]; decide +kernel
theorem d133_15 : decode (mC 133) 15 = .ok (.iconst 1, 1) := by rw [mC_133]; decide +kernel
theorem d133_16 : decode (mC 133) 16 = .ok (.ireturn, 1) := by rw [mC_133]; decide +kernel
theorem d133_17 : decode (mC 133) 17 = .ok (.astore 4, 2) := by rw [mC_133]; decide +kernel
theorem d133_19 : decode (mC 133) 19 = .ok (.iconst 2, 1) := by rw [mC_133]; decide +kernel
theorem d133_20 : decode (mC 133) 20 = .ok (.ireturn, 1) := by rw [mC_133]; decide +kernel
theorem d133_21 : decode (mC 133) 21 = .ok (.iconst 0, 1) := by rw [mC_133]; decide +kernel
theorem d133_22 : decode (mC 133) 22 = .ok (.ireturn, 1) := by rw [mC_133]; decide +kernel
theorem s133_0 {S : Nat × (Nat → Int32)} {L : List (Option Value)} {st : List Value} {n : Nat} {Q : xQ} {μ : xM} {a : Nat} (hl : L[3]? = some (some (.ref a))) (h : x_V S 133 1 L (.ref a :: st) μ n Q) : x_V S 133 0 L (st) μ n Q := x_aload_n d133_0 hl h
theorem s133_0N {S : Nat × (Nat → Int32)} {L : List (Option Value)} {st : List Value} {n : Nat} {Q : xQ} {μ : xM} (hl : L[3]? = some (some .null)) (h : x_V S 133 1 L (.null :: st) μ n Q) : x_V S 133 0 L st μ n Q := x_aload_nN d133_0 hl h
theorem s133_1 {S : Nat × (Nat → Int32)} {L : List (Option Value)} {st : List Value} {n : Nat} {Q : xQ} {μ : xM}  (h : x_V S 133 2 L (.int (I 0) :: st) μ n Q) : x_V S 133 1 L (st) μ n Q := x_iconst (by decide +kernel) d133_1 h
theorem s133_2 {S : Nat × (Nat → Int32)} {L : List (Option Value)} {st : List Value} {n : Nat} {Q : xQ} {μ : xM} {a : Nat} (hl : L[0]? = some (some (.ref a))) (h : x_V S 133 3 L (.ref a :: st) μ n Q) : x_V S 133 2 L (st) μ n Q := x_aload_n d133_2 hl h
theorem s133_2N {S : Nat × (Nat → Int32)} {L : List (Option Value)} {st : List Value} {n : Nat} {Q : xQ} {μ : xM} (hl : L[0]? = some (some .null)) (h : x_V S 133 3 L (.null :: st) μ n Q) : x_V S 133 2 L st μ n Q := x_aload_nN d133_2 hl h
theorem s133_3 {S : Nat × (Nat → Int32)} {L : List (Option Value)} {st : List Value} {n : Nat} {Q : xQ} {μ : xM} {x : Int32} (hl : L[1]? = some (some (.int x))) (h : x_V S 133 4 L (.int x :: st) μ n Q) : x_V S 133 3 L (st) μ n Q := x_iload_n d133_3 hl h
theorem s133_4 {S : Nat × (Nat → Int32)} {L : List (Option Value)} {st : List Value} {n : Nat} {Q : xQ} {μ : xM} {x : Int32} (hl : L[2]? = some (some (.int x))) (h : x_V S 133 5 L (.int x :: st) μ n Q) : x_V S 133 4 L (st) μ n Q := x_iload_n d133_4 hl h
theorem s133_5 {S : Nat × (Nat → Int32)} {L : List (Option Value)} {st : List Value} {n : Nat} {Q : xQ} {μ : xM} {x0 : Int32} {x1 : Int32} {a : Nat} (hs : x_sh a = (0, 3)) (hst : st.length ≤ 4) (h : x_V S 76 0 [some (.ref a), some (.int x0), some (.int x1), none] [] μ n (x_bt S 133 5 L st Q)) : x_V S 133 5 L (.int x1 :: .int x0 :: .ref a :: st) μ n Q := x_callVT (k' := 76) (as := [.int x0, .int x1]) (na := 2) d133_5 ⟨w630, by decide +kernel, by decide, by decide, by decide, by decide, by decide⟩ cf0 w627 w628 w629 (by decide +kernel) rfl hs (fun v hv => by
    simp only [List.mem_cons, List.not_mem_nil, or_false] at hv
    rcases hv with rfl | rfl <;> first | rfl | assumption) hst h
theorem s133_8 {S : Nat × (Nat → Int32)} {L : List (Option Value)} {st : List Value} {n : Nat} {Q : xQ} {μ : xM} {x : Int32} (h : x_V S 133 9 L (.long x.toInt64 :: st) μ n Q) : x_V S 133 8 L (.int x :: st) μ n Q := x_i2l d133_8 h
theorem s133_10 {S : Nat × (Nat → Int32)} {L : List (Option Value)} {st : List Value} {n : Nat} {Q : xQ} {μ : xM}  (h : x_V S 133 21 L (st) μ n Q) : x_V S 133 10 L (st) μ n Q := x_goto (tgt := 21) (by decide) d133_10 h
theorem s133_13 {S : Nat × (Nat → Int32)} {L : List (Option Value)} {st : List Value} {n : Nat} {Q : xQ} {μ : xM} {a : Nat} (h : x_V S 133 15 (L.set 4 (some (.ref a))) (st) μ n Q) : x_V S 133 13 L (.ref a :: st) μ n Q := x_astore d133_13 (by decide) h
theorem s133_13N {S : Nat × (Nat → Int32)} {L : List (Option Value)} {st : List Value} {n : Nat} {Q : xQ} {μ : xM} (h : x_V S 133 15 (L.set 4 (some .null)) (st) μ n Q) : x_V S 133 13 L (.null :: st) μ n Q := x_astoreN d133_13 (by decide) h
theorem s133_15 {S : Nat × (Nat → Int32)} {L : List (Option Value)} {st : List Value} {n : Nat} {Q : xQ} {μ : xM}  (h : x_V S 133 16 L (.int (I 1) :: st) μ n Q) : x_V S 133 15 L (st) μ n Q := x_iconst (by decide +kernel) d133_15 h
theorem s133_16 {S : Nat × (Nat → Int32)} {L : List (Option Value)} {st : List Value} {n : Nat} {Q : xQ} {μ : xM} {x : Int32} (h : Q (.inl (some (.int x))) μ n) : x_V S 133 16 L (.int x :: []) μ n Q := x_ireturn d133_16 rfl rfl h
theorem s133_17 {S : Nat × (Nat → Int32)} {L : List (Option Value)} {st : List Value} {n : Nat} {Q : xQ} {μ : xM} {a : Nat} (h : x_V S 133 19 (L.set 4 (some (.ref a))) (st) μ n Q) : x_V S 133 17 L (.ref a :: st) μ n Q := x_astore d133_17 (by decide) h
theorem s133_17N {S : Nat × (Nat → Int32)} {L : List (Option Value)} {st : List Value} {n : Nat} {Q : xQ} {μ : xM} (h : x_V S 133 19 (L.set 4 (some .null)) (st) μ n Q) : x_V S 133 17 L (.null :: st) μ n Q := x_astoreN d133_17 (by decide) h
theorem s133_19 {S : Nat × (Nat → Int32)} {L : List (Option Value)} {st : List Value} {n : Nat} {Q : xQ} {μ : xM}  (h : x_V S 133 20 L (.int (I 2) :: st) μ n Q) : x_V S 133 19 L (st) μ n Q := x_iconst (by decide +kernel) d133_19 h
theorem s133_20 {S : Nat × (Nat → Int32)} {L : List (Option Value)} {st : List Value} {n : Nat} {Q : xQ} {μ : xM} {x : Int32} (h : Q (.inl (some (.int x))) μ n) : x_V S 133 20 L (.int x :: []) μ n Q := x_ireturn d133_20 rfl rfl h
theorem s133_21 {S : Nat × (Nat → Int32)} {L : List (Option Value)} {st : List Value} {n : Nat} {Q : xQ} {μ : xM}  (h : x_V S 133 22 L (.int (I 0) :: st) μ n Q) : x_V S 133 21 L (st) μ n Q := x_iconst (by decide +kernel) d133_21 h
theorem s133_22 {S : Nat × (Nat → Int32)} {L : List (Option Value)} {st : List Value} {n : Nat} {Q : xQ} {μ : xM} {x : Int32} (h : Q (.inl (some (.int x))) μ n) : x_V S 133 22 L (.int x :: []) μ n Q := x_ireturn d133_22 rfl rfl h
theorem mC_134 : mC 134 = method_8_code := rfl
theorem d134_0 : decode (mC 134) 0 = .ok (.aload_n 2, 1) := by rw [mC_134]; decide +kernel
theorem d134_1 : decode (mC 134) 1 = .ok (.iconst 0, 1) := by rw [mC_134]; decide +kernel
theorem d134_2 : decode (mC 134) 2 = .ok (.aload_n 0, 1) := by rw [mC_134]; decide +kernel
theorem d134_3 : decode (mC 134) 3 = .ok (.iload_n 1, 1) := by rw [mC_134]; decide +kernel
theorem d134_4 : decode (mC 134) 4 = .ok (.invokevirtual 36, 3) := by rw [mC_134]; decide +kernel
theorem d134_7 : decode (mC 134) 7 = .ok (.i2l, 1) := by rw [mC_134]; decide +kernel
theorem d134_8 : decode (mC 134) 8 = .ok (.lastore, 1) := by rw [mC_134]; decide +kernel
theorem d134_9 : decode (mC 134) 9 = .ok (.goto 6, 3) := by rw [mC_134]; decide +kernel
theorem d134_12 : decode (mC 134) 12 = .ok (.astore_n 3, 1) := by rw [mC_134]; decide +kernel
theorem d134_13 : decode (mC 134) 13 = .ok (.iconst 1, 1) := by rw [mC_134]; decide +kernel
theorem d134_14 : decode (mC 134) 14 = .ok (.ireturn, 1) := by rw [mC_134]; decide +kernel
theorem d134_15 : decode (mC 134) 15 = .ok (.iconst 0, 1) := by rw [mC_134]; decide +kernel
theorem d134_16 : decode (mC 134) 16 = .ok (.ireturn, 1) := by rw [mC_134]; decide +kernel
theorem s134_0 {S : Nat × (Nat → Int32)} {L : List (Option Value)} {st : List Value} {n : Nat} {Q : xQ} {μ : xM} {a : Nat} (hl : L[2]? = some (some (.ref a))) (h : x_V S 134 1 L (.ref a :: st) μ n Q) : x_V S 134 0 L (st) μ n Q := x_aload_n d134_0 hl h
theorem s134_0N {S : Nat × (Nat → Int32)} {L : List (Option Value)} {st : List Value} {n : Nat} {Q : xQ} {μ : xM} (hl : L[2]? = some (some .null)) (h : x_V S 134 1 L (.null :: st) μ n Q) : x_V S 134 0 L st μ n Q := x_aload_nN d134_0 hl h
theorem s134_1 {S : Nat × (Nat → Int32)} {L : List (Option Value)} {st : List Value} {n : Nat} {Q : xQ} {μ : xM}  (h : x_V S 134 2 L (.int (I 0) :: st) μ n Q) : x_V S 134 1 L (st) μ n Q := x_iconst (by decide +kernel) d134_1 h
theorem s134_2 {S : Nat × (Nat → Int32)} {L : List (Option Value)} {st : List Value} {n : Nat} {Q : xQ} {μ : xM} {a : Nat} (hl : L[0]? = some (some (.ref a))) (h : x_V S 134 3 L (.ref a :: st) μ n Q) : x_V S 134 2 L (st) μ n Q := x_aload_n d134_2 hl h
theorem s134_2N {S : Nat × (Nat → Int32)} {L : List (Option Value)} {st : List Value} {n : Nat} {Q : xQ} {μ : xM} (hl : L[0]? = some (some .null)) (h : x_V S 134 3 L (.null :: st) μ n Q) : x_V S 134 2 L st μ n Q := x_aload_nN d134_2 hl h
theorem s134_3 {S : Nat × (Nat → Int32)} {L : List (Option Value)} {st : List Value} {n : Nat} {Q : xQ} {μ : xM} {x : Int32} (hl : L[1]? = some (some (.int x))) (h : x_V S 134 4 L (.int x :: st) μ n Q) : x_V S 134 3 L (st) μ n Q := x_iload_n d134_3 hl h
theorem s134_4 {S : Nat × (Nat → Int32)} {L : List (Option Value)} {st : List Value} {n : Nat} {Q : xQ} {μ : xM} {x0 : Int32} {a : Nat} (hs : x_sh a = (0, 3)) (hst : st.length ≤ 4) (h : x_V S 78 0 [some (.ref a), some (.int x0)] [] μ n (x_bt S 134 4 L st Q)) : x_V S 134 4 L (.int x0 :: .ref a :: st) μ n Q := x_callVT (k' := 78) (as := [.int x0]) (na := 1) d134_4 ⟨w655, by decide +kernel, by decide, by decide, by decide, by decide, by decide⟩ cf0 w652 w653 w654 (by decide +kernel) rfl hs (fun v hv => by
    simp only [List.mem_cons, List.not_mem_nil, or_false] at hv
    rcases hv with rfl <;> first | rfl | assumption) hst h
theorem s134_7 {S : Nat × (Nat → Int32)} {L : List (Option Value)} {st : List Value} {n : Nat} {Q : xQ} {μ : xM} {x : Int32} (h : x_V S 134 8 L (.long x.toInt64 :: st) μ n Q) : x_V S 134 7 L (.int x :: st) μ n Q := x_i2l d134_7 h
theorem s134_9 {S : Nat × (Nat → Int32)} {L : List (Option Value)} {st : List Value} {n : Nat} {Q : xQ} {μ : xM}  (h : x_V S 134 15 L (st) μ n Q) : x_V S 134 9 L (st) μ n Q := x_goto (tgt := 15) (by decide) d134_9 h
theorem s134_12 {S : Nat × (Nat → Int32)} {L : List (Option Value)} {st : List Value} {n : Nat} {Q : xQ} {μ : xM} {a : Nat} (h : x_V S 134 13 (L.set 3 (some (.ref a))) (st) μ n Q) : x_V S 134 12 L (.ref a :: st) μ n Q := x_astore_n d134_12 (by decide) h
theorem s134_12N {S : Nat × (Nat → Int32)} {L : List (Option Value)} {st : List Value} {n : Nat} {Q : xQ} {μ : xM} (h : x_V S 134 13 (L.set 3 (some .null)) (st) μ n Q) : x_V S 134 12 L (.null :: st) μ n Q := x_astore_nN d134_12 (by decide) h
theorem s134_13 {S : Nat × (Nat → Int32)} {L : List (Option Value)} {st : List Value} {n : Nat} {Q : xQ} {μ : xM}  (h : x_V S 134 14 L (.int (I 1) :: st) μ n Q) : x_V S 134 13 L (st) μ n Q := x_iconst (by decide +kernel) d134_13 h
theorem s134_14 {S : Nat × (Nat → Int32)} {L : List (Option Value)} {st : List Value} {n : Nat} {Q : xQ} {μ : xM} {x : Int32} (h : Q (.inl (some (.int x))) μ n) : x_V S 134 14 L (.int x :: []) μ n Q := x_ireturn d134_14 rfl rfl h
theorem s134_15 {S : Nat × (Nat → Int32)} {L : List (Option Value)} {st : List Value} {n : Nat} {Q : xQ} {μ : xM}  (h : x_V S 134 16 L (.int (I 0) :: st) μ n Q) : x_V S 134 15 L (st) μ n Q := x_iconst (by decide +kernel) d134_15 h
theorem s134_16 {S : Nat × (Nat → Int32)} {L : List (Option Value)} {st : List Value} {n : Nat} {Q : xQ} {μ : xM} {x : Int32} (h : Q (.inl (some (.int x))) μ n) : x_V S 134 16 L (.int x :: []) μ n Q := x_ireturn d134_16 rfl rfl h
theorem mC_135 : mC 135 = method_9_code := rfl
theorem d135_0 : decode (mC 135) 0 = .ok (.aload_n 3, 1) := by rw [mC_135]; decide +kernel
theorem d135_1 : decode (mC 135) 1 = .ok (.iconst 0, 1) := by rw [mC_135]; decide +kernel
theorem d135_2 : decode (mC 135) 2 = .ok (.aload_n 0, 1) := by rw [mC_135]; decide +kernel
theorem d135_3 : decode (mC 135) 3 = .ok (.iload_n 1, 1) := by rw [mC_135]; decide +kernel
theorem d135_4 : decode (mC 135) 4 = .ok (.iload_n 2, 1) := by rw [mC_135]; decide +kernel
theorem d135_5 : decode (mC 135) 5 = .ok (.invokevirtual 39, 3) := by rw [mC_135]; decide +kernel
theorem d135_8 : decode (mC 135) 8 = .ok (.i2l, 1) := by rw [mC_135]; decide +kernel
theorem d135_9 : decode (mC 135) 9 = .ok (.lastore, 1) := by rw [mC_135]; decide +kernel
theorem d135_10 : decode (mC 135) 10 = .ok (.goto 7, 3) := by rw [mC_135]; decide +kernel
theorem d135_13 : decode (mC 135) 13 = .ok (.astore 4, 2) := by rw [mC_135]; decide +kernel
theorem d135_15 : decode (mC 135) 15 = .ok (.iconst 1, 1) := by rw [mC_135]; decide +kernel
theorem d135_16 : decode (mC 135) 16 = .ok (.ireturn, 1) := by rw [mC_135]; decide +kernel
theorem d135_17 : decode (mC 135) 17 = .ok (.iconst 0, 1) := by rw [mC_135]; decide +kernel
theorem d135_18 : decode (mC 135) 18 = .ok (.ireturn, 1) := by rw [mC_135]; decide +kernel
theorem s135_0 {S : Nat × (Nat → Int32)} {L : List (Option Value)} {st : List Value} {n : Nat} {Q : xQ} {μ : xM} {a : Nat} (hl : L[3]? = some (some (.ref a))) (h : x_V S 135 1 L (.ref a :: st) μ n Q) : x_V S 135 0 L (st) μ n Q := x_aload_n d135_0 hl h
theorem s135_0N {S : Nat × (Nat → Int32)} {L : List (Option Value)} {st : List Value} {n : Nat} {Q : xQ} {μ : xM} (hl : L[3]? = some (some .null)) (h : x_V S 135 1 L (.null :: st) μ n Q) : x_V S 135 0 L st μ n Q := x_aload_nN d135_0 hl h
theorem s135_1 {S : Nat × (Nat → Int32)} {L : List (Option Value)} {st : List Value} {n : Nat} {Q : xQ} {μ : xM}  (h : x_V S 135 2 L (.int (I 0) :: st) μ n Q) : x_V S 135 1 L (st) μ n Q := x_iconst (by decide +kernel) d135_1 h
theorem s135_2 {S : Nat × (Nat → Int32)} {L : List (Option Value)} {st : List Value} {n : Nat} {Q : xQ} {μ : xM} {a : Nat} (hl : L[0]? = some (some (.ref a))) (h : x_V S 135 3 L (.ref a :: st) μ n Q) : x_V S 135 2 L (st) μ n Q := x_aload_n d135_2 hl h
theorem s135_2N {S : Nat × (Nat → Int32)} {L : List (Option Value)} {st : List Value} {n : Nat} {Q : xQ} {μ : xM} (hl : L[0]? = some (some .null)) (h : x_V S 135 3 L (.null :: st) μ n Q) : x_V S 135 2 L st μ n Q := x_aload_nN d135_2 hl h
theorem s135_3 {S : Nat × (Nat → Int32)} {L : List (Option Value)} {st : List Value} {n : Nat} {Q : xQ} {μ : xM} {x : Int32} (hl : L[1]? = some (some (.int x))) (h : x_V S 135 4 L (.int x :: st) μ n Q) : x_V S 135 3 L (st) μ n Q := x_iload_n d135_3 hl h
theorem s135_4 {S : Nat × (Nat → Int32)} {L : List (Option Value)} {st : List Value} {n : Nat} {Q : xQ} {μ : xM} {x : Int32} (hl : L[2]? = some (some (.int x))) (h : x_V S 135 5 L (.int x :: st) μ n Q) : x_V S 135 4 L (st) μ n Q := x_iload_n d135_4 hl h
theorem s135_5 {S : Nat × (Nat → Int32)} {L : List (Option Value)} {st : List Value} {n : Nat} {Q : xQ} {μ : xM} {x0 : Int32} {x1 : Int32} {a : Nat} (hs : x_sh a = (0, 3)) (hst : st.length ≤ 4) (h : x_V S 79 0 [some (.ref a), some (.int x0), some (.int x1), none] [] μ n (x_bt S 135 5 L st Q)) : x_V S 135 5 L (.int x1 :: .int x0 :: .ref a :: st) μ n Q := x_callVT (k' := 79) (as := [.int x0, .int x1]) (na := 2) d135_5 ⟨w672, by decide +kernel, by decide, by decide, by decide, by decide, by decide⟩ cf0 w669 w670 w671 (by decide +kernel) rfl hs (fun v hv => by
    simp only [List.mem_cons, List.not_mem_nil, or_false] at hv
    rcases hv with rfl | rfl <;> first | rfl | assumption) hst h
theorem s135_8 {S : Nat × (Nat → Int32)} {L : List (Option Value)} {st : List Value} {n : Nat} {Q : xQ} {μ : xM} {x : Int32} (h : x_V S 135 9 L (.long x.toInt64 :: st) μ n Q) : x_V S 135 8 L (.int x :: st) μ n Q := x_i2l d135_8 h
theorem s135_10 {S : Nat × (Nat → Int32)} {L : List (Option Value)} {st : List Value} {n : Nat} {Q : xQ} {μ : xM}  (h : x_V S 135 17 L (st) μ n Q) : x_V S 135 10 L (st) μ n Q := x_goto (tgt := 17) (by decide) d135_10 h
theorem s135_13 {S : Nat × (Nat → Int32)} {L : List (Option Value)} {st : List Value} {n : Nat} {Q : xQ} {μ : xM} {a : Nat} (h : x_V S 135 15 (L.set 4 (some (.ref a))) (st) μ n Q) : x_V S 135 13 L (.ref a :: st) μ n Q := x_astore d135_13 (by decide) h
theorem s135_13N {S : Nat × (Nat → Int32)} {L : List (Option Value)} {st : List Value} {n : Nat} {Q : xQ} {μ : xM} (h : x_V S 135 15 (L.set 4 (some .null)) (st) μ n Q) : x_V S 135 13 L (.null :: st) μ n Q := x_astoreN d135_13 (by decide) h
theorem s135_15 {S : Nat × (Nat → Int32)} {L : List (Option Value)} {st : List Value} {n : Nat} {Q : xQ} {μ : xM}  (h : x_V S 135 16 L (.int (I 1) :: st) μ n Q) : x_V S 135 15 L (st) μ n Q := x_iconst (by decide +kernel) d135_15 h
theorem s135_16 {S : Nat × (Nat → Int32)} {L : List (Option Value)} {st : List Value} {n : Nat} {Q : xQ} {μ : xM} {x : Int32} (h : Q (.inl (some (.int x))) μ n) : x_V S 135 16 L (.int x :: []) μ n Q := x_ireturn d135_16 rfl rfl h
theorem s135_17 {S : Nat × (Nat → Int32)} {L : List (Option Value)} {st : List Value} {n : Nat} {Q : xQ} {μ : xM}  (h : x_V S 135 18 L (.int (I 0) :: st) μ n Q) : x_V S 135 17 L (st) μ n Q := x_iconst (by decide +kernel) d135_17 h
theorem s135_18 {S : Nat × (Nat → Int32)} {L : List (Option Value)} {st : List Value} {n : Nat} {Q : xQ} {μ : xM} {x : Int32} (h : Q (.inl (some (.int x))) μ n) : x_V S 135 18 L (.int x :: []) μ n Q := x_ireturn d135_18 rfl rfl h
theorem mC_136 : mC 136 = method_10_code := rfl
theorem d136_0 : decode (mC 136) 0 = .ok (.aload_n 2, 1) := by rw [mC_136]; decide +kernel
theorem d136_1 : decode (mC 136) 1 = .ok (.iconst 0, 1) := by rw [mC_136]; decide +kernel
theorem d136_2 : decode (mC 136) 2 = .ok (.aload_n 0, 1) := by rw [mC_136]; decide +kernel
theorem d136_3 : decode (mC 136) 3 = .ok (.iload_n 1, 1) := by rw [mC_136]; decide +kernel
theorem d136_4 : decode (mC 136) 4 = .ok (.invokevirtual 42, 3) := by rw [mC_136]; decide +kernel
theorem d136_7 : decode (mC 136) 7 = .ok (.i2l, 1) := by rw [mC_136]; decide +kernel
theorem d136_8 : decode (mC 136) 8 = .ok (.lastore, 1) := by rw [mC_136]; decide +kernel
theorem d136_9 : decode (mC 136) 9 = .ok (.goto 6, 3) := by rw [mC_136]; decide +kernel
theorem d136_12 : decode (mC 136) 12 = .ok (.astore_n 3, 1) := by rw [mC_136]; decide +kernel
theorem d136_13 : decode (mC 136) 13 = .ok (.iconst 1, 1) := by rw [mC_136]; decide +kernel
theorem d136_14 : decode (mC 136) 14 = .ok (.ireturn, 1) := by rw [mC_136]; decide +kernel
theorem d136_15 : decode (mC 136) 15 = .ok (.iconst 0, 1) := by rw [mC_136]; decide +kernel
theorem d136_16 : decode (mC 136) 16 = .ok (.ireturn, 1) := by rw [mC_136]; decide +kernel
theorem s136_0 {S : Nat × (Nat → Int32)} {L : List (Option Value)} {st : List Value} {n : Nat} {Q : xQ} {μ : xM} {a : Nat} (hl : L[2]? = some (some (.ref a))) (h : x_V S 136 1 L (.ref a :: st) μ n Q) : x_V S 136 0 L (st) μ n Q := x_aload_n d136_0 hl h
theorem s136_0N {S : Nat × (Nat → Int32)} {L : List (Option Value)} {st : List Value} {n : Nat} {Q : xQ} {μ : xM} (hl : L[2]? = some (some .null)) (h : x_V S 136 1 L (.null :: st) μ n Q) : x_V S 136 0 L st μ n Q := x_aload_nN d136_0 hl h
theorem s136_1 {S : Nat × (Nat → Int32)} {L : List (Option Value)} {st : List Value} {n : Nat} {Q : xQ} {μ : xM}  (h : x_V S 136 2 L (.int (I 0) :: st) μ n Q) : x_V S 136 1 L (st) μ n Q := x_iconst (by decide +kernel) d136_1 h
theorem s136_2 {S : Nat × (Nat → Int32)} {L : List (Option Value)} {st : List Value} {n : Nat} {Q : xQ} {μ : xM} {a : Nat} (hl : L[0]? = some (some (.ref a))) (h : x_V S 136 3 L (.ref a :: st) μ n Q) : x_V S 136 2 L (st) μ n Q := x_aload_n d136_2 hl h
theorem s136_2N {S : Nat × (Nat → Int32)} {L : List (Option Value)} {st : List Value} {n : Nat} {Q : xQ} {μ : xM} (hl : L[0]? = some (some .null)) (h : x_V S 136 3 L (.null :: st) μ n Q) : x_V S 136 2 L st μ n Q := x_aload_nN d136_2 hl h
theorem s136_3 {S : Nat × (Nat → Int32)} {L : List (Option Value)} {st : List Value} {n : Nat} {Q : xQ} {μ : xM} {x : Int32} (hl : L[1]? = some (some (.int x))) (h : x_V S 136 4 L (.int x :: st) μ n Q) : x_V S 136 3 L (st) μ n Q := x_iload_n d136_3 hl h
theorem s136_4 {S : Nat × (Nat → Int32)} {L : List (Option Value)} {st : List Value} {n : Nat} {Q : xQ} {μ : xM} {x0 : Int32} {a : Nat} (hs : x_sh a = (0, 3)) (hst : st.length ≤ 4) (h : x_V S 80 0 [some (.ref a), some (.int x0)] [] μ n (x_bt S 136 4 L st Q)) : x_V S 136 4 L (.int x0 :: .ref a :: st) μ n Q := x_callVT (k' := 80) (as := [.int x0]) (na := 1) d136_4 ⟨w679, by decide +kernel, by decide, by decide, by decide, by decide, by decide⟩ cf0 w676 w677 w678 (by decide +kernel) rfl hs (fun v hv => by
    simp only [List.mem_cons, List.not_mem_nil, or_false] at hv
    rcases hv with rfl <;> first | rfl | assumption) hst h
theorem s136_7 {S : Nat × (Nat → Int32)} {L : List (Option Value)} {st : List Value} {n : Nat} {Q : xQ} {μ : xM} {x : Int32} (h : x_V S 136 8 L (.long x.toInt64 :: st) μ n Q) : x_V S 136 7 L (.int x :: st) μ n Q := x_i2l d136_7 h
theorem s136_9 {S : Nat × (Nat → Int32)} {L : List (Option Value)} {st : List Value} {n : Nat} {Q : xQ} {μ : xM}  (h : x_V S 136 15 L (st) μ n Q) : x_V S 136 9 L (st) μ n Q := x_goto (tgt := 15) (by decide) d136_9 h
theorem s136_12 {S : Nat × (Nat → Int32)} {L : List (Option Value)} {st : List Value} {n : Nat} {Q : xQ} {μ : xM} {a : Nat} (h : x_V S 136 13 (L.set 3 (some (.ref a))) (st) μ n Q) : x_V S 136 12 L (.ref a :: st) μ n Q := x_astore_n d136_12 (by decide) h
theorem s136_12N {S : Nat × (Nat → Int32)} {L : List (Option Value)} {st : List Value} {n : Nat} {Q : xQ} {μ : xM} (h : x_V S 136 13 (L.set 3 (some .null)) (st) μ n Q) : x_V S 136 12 L (.null :: st) μ n Q := x_astore_nN d136_12 (by decide) h
theorem s136_13 {S : Nat × (Nat → Int32)} {L : List (Option Value)} {st : List Value} {n : Nat} {Q : xQ} {μ : xM}  (h : x_V S 136 14 L (.int (I 1) :: st) μ n Q) : x_V S 136 13 L (st) μ n Q := x_iconst (by decide +kernel) d136_13 h
theorem s136_14 {S : Nat × (Nat → Int32)} {L : List (Option Value)} {st : List Value} {n : Nat} {Q : xQ} {μ : xM} {x : Int32} (h : Q (.inl (some (.int x))) μ n) : x_V S 136 14 L (.int x :: []) μ n Q := x_ireturn d136_14 rfl rfl h
theorem s136_15 {S : Nat × (Nat → Int32)} {L : List (Option Value)} {st : List Value} {n : Nat} {Q : xQ} {μ : xM}  (h : x_V S 136 16 L (.int (I 0) :: st) μ n Q) : x_V S 136 15 L (st) μ n Q := x_iconst (by decide +kernel) d136_15 h
theorem s136_16 {S : Nat × (Nat → Int32)} {L : List (Option Value)} {st : List Value} {n : Nat} {Q : xQ} {μ : xM} {x : Int32} (h : Q (.inl (some (.int x))) μ n) : x_V S 136 16 L (.int x :: []) μ n Q := x_ireturn d136_16 rfl rfl h
theorem mC_137 : mC 137 = method_11_code := rfl
theorem d137_0 : decode (mC 137) 0 = .ok (.aload_n 3, 1) := by rw [mC_137]; decide +kernel
theorem d137_1 : decode (mC 137) 1 = .ok (.iconst 0, 1) := by rw [mC_137]; decide +kernel
theorem d137_2 : decode (mC 137) 2 = .ok (.aload_n 0, 1) := by rw [mC_137]; decide +kernel
theorem d137_3 : decode (mC 137) 3 = .ok (.iload_n 1, 1) := by rw [mC_137]; decide +kernel
theorem d137_4 : decode (mC 137) 4 = .ok (.iload_n 2, 1) := by rw [mC_137]; decide +kernel
theorem d137_5 : decode (mC 137) 5 = .ok (.invokevirtual 45, 3) := by rw [mC_137]; decide +kernel
theorem d137_8 : decode (mC 137) 8 = .ok (.i2l, 1) := by rw [mC_137]; decide +kernel
theorem d137_9 : decode (mC 137) 9 = .ok (.lastore, 1) := by rw [mC_137]; decide +kernel
theorem d137_10 : decode (mC 137) 10 = .ok (.goto 11, 3) := by rw [mC_137]; decide +kernel
theorem d137_13 : decode (mC 137) 13 = .ok (.astore 4, 2) := by rw [mC_137]; decide +kernel
theorem d137_15 : decode (mC 137) 15 = .ok (.iconst 1, 1) := by rw [mC_137]; decide +kernel
theorem d137_16 : decode (mC 137) 16 = .ok (.ireturn, 1) := by rw [mC_137]; decide +kernel
theorem d137_17 : decode (mC 137) 17 = .ok (.astore 4, 2) := by rw [mC_137]; decide +kernel
theorem d137_19 : decode (mC 137) 19 = .ok (.iconst 2, 1) := by rw [mC_137]; decide +kernel
theorem d137_20 : decode (mC 137) 20 = .ok (.ireturn, 1) := by rw [mC_137]; decide +kernel
theorem d137_21 : decode (mC 137) 21 = .ok (.iconst 0, 1) := by rw [mC_137]; decide +kernel
theorem d137_22 : decode (mC 137) 22 = .ok (.ireturn, 1) := by rw [mC_137]; decide +kernel
theorem s137_0 {S : Nat × (Nat → Int32)} {L : List (Option Value)} {st : List Value} {n : Nat} {Q : xQ} {μ : xM} {a : Nat} (hl : L[3]? = some (some (.ref a))) (h : x_V S 137 1 L (.ref a :: st) μ n Q) : x_V S 137 0 L (st) μ n Q := x_aload_n d137_0 hl h
theorem s137_0N {S : Nat × (Nat → Int32)} {L : List (Option Value)} {st : List Value} {n : Nat} {Q : xQ} {μ : xM} (hl : L[3]? = some (some .null)) (h : x_V S 137 1 L (.null :: st) μ n Q) : x_V S 137 0 L st μ n Q := x_aload_nN d137_0 hl h
theorem s137_1 {S : Nat × (Nat → Int32)} {L : List (Option Value)} {st : List Value} {n : Nat} {Q : xQ} {μ : xM}  (h : x_V S 137 2 L (.int (I 0) :: st) μ n Q) : x_V S 137 1 L (st) μ n Q := x_iconst (by decide +kernel) d137_1 h
theorem s137_2 {S : Nat × (Nat → Int32)} {L : List (Option Value)} {st : List Value} {n : Nat} {Q : xQ} {μ : xM} {a : Nat} (hl : L[0]? = some (some (.ref a))) (h : x_V S 137 3 L (.ref a :: st) μ n Q) : x_V S 137 2 L (st) μ n Q := x_aload_n d137_2 hl h
theorem s137_2N {S : Nat × (Nat → Int32)} {L : List (Option Value)} {st : List Value} {n : Nat} {Q : xQ} {μ : xM} (hl : L[0]? = some (some .null)) (h : x_V S 137 3 L (.null :: st) μ n Q) : x_V S 137 2 L st μ n Q := x_aload_nN d137_2 hl h
theorem s137_3 {S : Nat × (Nat → Int32)} {L : List (Option Value)} {st : List Value} {n : Nat} {Q : xQ} {μ : xM} {x : Int32} (hl : L[1]? = some (some (.int x))) (h : x_V S 137 4 L (.int x :: st) μ n Q) : x_V S 137 3 L (st) μ n Q := x_iload_n d137_3 hl h
theorem s137_4 {S : Nat × (Nat → Int32)} {L : List (Option Value)} {st : List Value} {n : Nat} {Q : xQ} {μ : xM} {x : Int32} (hl : L[2]? = some (some (.int x))) (h : x_V S 137 5 L (.int x :: st) μ n Q) : x_V S 137 4 L (st) μ n Q := x_iload_n d137_4 hl h
theorem s137_5 {S : Nat × (Nat → Int32)} {L : List (Option Value)} {st : List Value} {n : Nat} {Q : xQ} {μ : xM} {x0 : Int32} {x1 : Int32} {a : Nat} (hs : x_sh a = (0, 3)) (hst : st.length ≤ 4) (h : x_V S 81 0 [some (.ref a), some (.int x0), some (.int x1), none] [] μ n (x_bt S 137 5 L st Q)) : x_V S 137 5 L (.int x1 :: .int x0 :: .ref a :: st) μ n Q := x_callVT (k' := 81) (as := [.int x0, .int x1]) (na := 2) d137_5 ⟨w686, by decide +kernel, by decide, by decide, by decide, by decide, by decide⟩ cf0 w683 w684 w685 (by decide +kernel) rfl hs (fun v hv => by
    simp only [List.mem_cons, List.not_mem_nil, or_false] at hv
    rcases hv with rfl | rfl <;> first | rfl | assumption) hst h
theorem s137_8 {S : Nat × (Nat → Int32)} {L : List (Option Value)} {st : List Value} {n : Nat} {Q : xQ} {μ : xM} {x : Int32} (h : x_V S 137 9 L (.long x.toInt64 :: st) μ n Q) : x_V S 137 8 L (.int x :: st) μ n Q := x_i2l d137_8 h
theorem s137_10 {S : Nat × (Nat → Int32)} {L : List (Option Value)} {st : List Value} {n : Nat} {Q : xQ} {μ : xM}  (h : x_V S 137 21 L (st) μ n Q) : x_V S 137 10 L (st) μ n Q := x_goto (tgt := 21) (by decide) d137_10 h
theorem s137_13 {S : Nat × (Nat → Int32)} {L : List (Option Value)} {st : List Value} {n : Nat} {Q : xQ} {μ : xM} {a : Nat} (h : x_V S 137 15 (L.set 4 (some (.ref a))) (st) μ n Q) : x_V S 137 13 L (.ref a :: st) μ n Q := x_astore d137_13 (by decide) h
theorem s137_13N {S : Nat × (Nat → Int32)} {L : List (Option Value)} {st : List Value} {n : Nat} {Q : xQ} {μ : xM} (h : x_V S 137 15 (L.set 4 (some .null)) (st) μ n Q) : x_V S 137 13 L (.null :: st) μ n Q := x_astoreN d137_13 (by decide) h
theorem s137_15 {S : Nat × (Nat → Int32)} {L : List (Option Value)} {st : List Value} {n : Nat} {Q : xQ} {μ : xM}  (h : x_V S 137 16 L (.int (I 1) :: st) μ n Q) : x_V S 137 15 L (st) μ n Q := x_iconst (by decide +kernel) d137_15 h
theorem s137_16 {S : Nat × (Nat → Int32)} {L : List (Option Value)} {st : List Value} {n : Nat} {Q : xQ} {μ : xM} {x : Int32} (h : Q (.inl (some (.int x))) μ n) : x_V S 137 16 L (.int x :: []) μ n Q := x_ireturn d137_16 rfl rfl h
theorem s137_17 {S : Nat × (Nat → Int32)} {L : List (Option Value)} {st : List Value} {n : Nat} {Q : xQ} {μ : xM} {a : Nat} (h : x_V S 137 19 (L.set 4 (some (.ref a))) (st) μ n Q) : x_V S 137 17 L (.ref a :: st) μ n Q := x_astore d137_17 (by decide) h
theorem s137_17N {S : Nat × (Nat → Int32)} {L : List (Option Value)} {st : List Value} {n : Nat} {Q : xQ} {μ : xM} (h : x_V S 137 19 (L.set 4 (some .null)) (st) μ n Q) : x_V S 137 17 L (.null :: st) μ n Q := x_astoreN d137_17 (by decide) h
theorem s137_19 {S : Nat × (Nat → Int32)} {L : List (Option Value)} {st : List Value} {n : Nat} {Q : xQ} {μ : xM}  (h : x_V S 137 20 L (.int (I 2) :: st) μ n Q) : x_V S 137 19 L (st) μ n Q := x_iconst (by decide +kernel) d137_19 h
theorem s137_20 {S : Nat × (Nat → Int32)} {L : List (Option Value)} {st : List Value} {n : Nat} {Q : xQ} {μ : xM} {x : Int32} (h : Q (.inl (some (.int x))) μ n) : x_V S 137 20 L (.int x :: []) μ n Q := x_ireturn d137_20 rfl rfl h
theorem s137_21 {S : Nat × (Nat → Int32)} {L : List (Option Value)} {st : List Value} {n : Nat} {Q : xQ} {μ : xM}  (h : x_V S 137 22 L (.int (I 0) :: st) μ n Q) : x_V S 137 21 L (st) μ n Q := x_iconst (by decide +kernel) d137_21 h
theorem s137_22 {S : Nat × (Nat → Int32)} {L : List (Option Value)} {st : List Value} {n : Nat} {Q : xQ} {μ : xM} {x : Int32} (h : Q (.inl (some (.int x))) μ n) : x_V S 137 22 L (.int x :: []) μ n Q := x_ireturn d137_22 rfl rfl h
