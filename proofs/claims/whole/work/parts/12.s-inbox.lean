/-! 12.s-inbox: decode rows and step rows of TradeLink$Inbox, TradeLink$Book; laid by a program. -/
theorem mC_27 : mC 27 = prog_3_method_1_code := rfl
theorem d27_0 : decode (mC 27) 0 = .ok (.aload_n 0, 1) := by rw [mC_27]; decide +kernel
theorem d27_1 : decode (mC 27) 1 = .ok (.invokespecial 3, 3) := by rw [mC_27]; decide +kernel
theorem d27_4 : decode (mC 27) 4 = .ok (.aload_n 0, 1) := by rw [mC_27]; decide +kernel
theorem d27_5 : decode (mC 27) 5 = .ok (.new 9, 3) := by rw [mC_27]; decide +kernel
theorem d27_8 : decode (mC 27) 8 = .ok (.dup, 1) := by rw [mC_27]; decide +kernel
theorem d27_9 : decode (mC 27) 9 = .ok (.invokespecial 11, 3) := by rw [mC_27]; decide +kernel
theorem d27_12 : decode (mC 27) 12 = .ok (.putfield 12, 3) := by rw [mC_27]; decide +kernel
theorem d27_15 : decode (mC 27) 15 = .ok (.return_, 1) := by rw [mC_27]; decide +kernel
theorem s27_0 {S : Nat × (Nat → Int32)} {L : List (Option Value)} {st : List Value} {n : Nat} {Q : xQ} {μ : xM} {a : Nat} (hl : L[0]? = some (some (.ref a))) (h : x_V S 27 1 L (.ref a :: st) μ n Q) : x_V S 27 0 L (st) μ n Q := x_aload_n d27_0 hl h
theorem s27_0N {S : Nat × (Nat → Int32)} {L : List (Option Value)} {st : List Value} {n : Nat} {Q : xQ} {μ : xM} (hl : L[0]? = some (some .null)) (h : x_V S 27 1 L (.null :: st) μ n Q) : x_V S 27 0 L st μ n Q := x_aload_nN d27_0 hl h
theorem s27_1 {S : Nat × (Nat → Int32)} {L : List (Option Value)} {st : List Value} {n : Nat} {Q : xQ} {μ : xM} {a : Nat} (hst : st.length ≤ 4) (h : x_V S 27 4 L (st) μ n Q) : x_V S 27 1 L (.ref a :: st) μ n Q := x_objInit d27_1 w33 w26 w27 ⟨by decide, by decide⟩ hst h
theorem s27_4 {S : Nat × (Nat → Int32)} {L : List (Option Value)} {st : List Value} {n : Nat} {Q : xQ} {μ : xM} {a : Nat} (hl : L[0]? = some (some (.ref a))) (h : x_V S 27 5 L (.ref a :: st) μ n Q) : x_V S 27 4 L (st) μ n Q := x_aload_n d27_4 hl h
theorem s27_4N {S : Nat × (Nat → Int32)} {L : List (Option Value)} {st : List Value} {n : Nat} {Q : xQ} {μ : xM} (hl : L[0]? = some (some .null)) (h : x_V S 27 5 L (.null :: st) μ n Q) : x_V S 27 4 L st μ n Q := x_aload_nN d27_4 hl h
theorem s27_5 {S : Nat × (Nat → Int32)} {L : List (Option Value)} {st : List Value} {n : Nat} {Q : xQ} {μ : xM}  (hs : x_sh n = (2, 2)) (hn : n < x_NM) (h : x_V S 27 8 L (.ref n :: st) (x_nw μ n (fun i => defaultValue (xt2 i))) (n + 1) Q) : x_V S 27 5 L (st) μ n Q := x_new cf2 d27_5 w34 hs hn h
theorem s27_8 {S : Nat × (Nat → Int32)} {L : List (Option Value)} {st : List Value} {n : Nat} {Q : xQ} {μ : xM} {v : Value} (hc : v.category = 1) (h : x_V S 27 9 L (v :: v :: st) μ n Q) : x_V S 27 8 L (v :: st) μ n Q := x_dup hc d27_8 h
theorem s27_9 {S : Nat × (Nat → Int32)} {L : List (Option Value)} {st : List Value} {n : Nat} {Q : xQ} {μ : xM}  {a : Nat} (hst : st.length ≤ 4) (h : x_V S 5 0 [some (.ref a)] [] μ n (x_bk S 27 9 L st Q)) : x_V S 27 9 L (.ref a :: st) μ n Q := x_callIN (k' := 5) (as := []) (na := 0) d27_9 ⟨w38, by decide +kernel, by decide, by decide, by decide, by decide, by decide⟩ rfl rfl rfl w36 w37 (by decide +kernel) rfl (fun v hv => by
    cases hv) hst h
theorem s27_12 {S : Nat × (Nat → Int32)} {L : List (Option Value)} {st : List Value} {n : Nat} {Q : xQ} {μ : xM} {a b : Nat} (hs : x_sh a = (1, 2)) (h : x_V S 27 15 L (st) (x_up μ a 0 (.ref b)) n Q) : x_V S 27 12 L (.ref b :: .ref a :: st) μ n Q := x_putF (i := 0) cf1 d27_12 (by decide) rfl rfl rfl w51 hs (fun _ => ⟨rfl, rfl⟩) h
theorem s27_15 {S : Nat × (Nat → Int32)} {L : List (Option Value)} {st : List Value} {n : Nat} {Q : xQ} {μ : xM}  (h : Q (.inl none) μ n) : x_V S 27 15 L ([]) μ n Q := x_return d27_15 rfl h
theorem mC_28 : mC 28 = prog_3_method_2_code := rfl
theorem d28_0 : decode (mC 28) 0 = .ok (.aload_n 0, 1) := by rw [mC_28]; decide +kernel
theorem d28_1 : decode (mC 28) 1 = .ok (.iconst 0, 1) := by rw [mC_28]; decide +kernel
theorem d28_2 : decode (mC 28) 2 = .ok (.putfield 18, 3) := by rw [mC_28]; decide +kernel
theorem d28_5 : decode (mC 28) 5 = .ok (.aload_n 0, 1) := by rw [mC_28]; decide +kernel
theorem d28_6 : decode (mC 28) 6 = .ok (.bipush 8, 2) := by rw [mC_28]; decide +kernel
theorem d28_8 : decode (mC 28) 8 = .ok (.invokevirtual 22, 3) := by rw [mC_28]; decide +kernel
theorem d28_11 : decode (mC 28) 11 = .ok (.ifCond .eq 21, 3) := by rw [mC_28]; decide +kernel
theorem d28_14 : decode (mC 28) 14 = .ok (.aload_n 0, 1) := by rw [mC_28]; decide +kernel
theorem d28_15 : decode (mC 28) 15 = .ok (.invokevirtual 26, 3) := by rw [mC_28]; decide +kernel
theorem d28_18 : decode (mC 28) 18 = .ok (.bipush 70, 2) := by rw [mC_28]; decide +kernel
theorem d28_20 : decode (mC 28) 20 = .ok (.if_icmp .ne 12, 3) := by rw [mC_28]; decide +kernel
theorem d28_23 : decode (mC 28) 23 = .ok (.aload_n 0, 1) := by rw [mC_28]; decide +kernel
theorem d28_24 : decode (mC 28) 24 = .ok (.bipush 9, 2) := by rw [mC_28]; decide +kernel
theorem d28_26 : decode (mC 28) 26 = .ok (.invokevirtual 22, 3) := by rw [mC_28]; decide +kernel
theorem d28_29 : decode (mC 28) 29 = .ok (.ifCond .ne 5, 3) := by rw [mC_28]; decide +kernel
theorem d28_32 : decode (mC 28) 32 = .ok (.iconst 0, 1) := by rw [mC_28]; decide +kernel
theorem d28_33 : decode (mC 28) 33 = .ok (.ireturn, 1) := by rw [mC_28]; decide +kernel
theorem d28_34 : decode (mC 28) 34 = .ok (.aload_n 0, 1) := by rw [mC_28]; decide +kernel
theorem d28_35 : decode (mC 28) 35 = .ok (.invokevirtual 30, 3) := by rw [mC_28]; decide +kernel
theorem d28_38 : decode (mC 28) 38 = .ok (.istore_n 2, 1) := by rw [mC_28]; decide +kernel
theorem d28_39 : decode (mC 28) 39 = .ok (.aload_n 0, 1) := by rw [mC_28]; decide +kernel
theorem d28_40 : decode (mC 28) 40 = .ok (.getfield 18, 3) := by rw [mC_28]; decide +kernel
theorem d28_43 : decode (mC 28) 43 = .ok (.istore_n 3, 1) := by rw [mC_28]; decide +kernel
theorem d28_44 : decode (mC 28) 44 = .ok (.iload_n 2, 1) := by rw [mC_28]; decide +kernel
theorem d28_45 : decode (mC 28) 45 = .ok (.iconst (-1), 1) := by rw [mC_28]; decide +kernel
theorem d28_46 : decode (mC 28) 46 = .ok (.if_icmp .eq 19, 3) := by rw [mC_28]; decide +kernel
theorem d28_49 : decode (mC 28) 49 = .ok (.aload_n 0, 1) := by rw [mC_28]; decide +kernel
theorem d28_50 : decode (mC 28) 50 = .ok (.aload_n 1, 1) := by rw [mC_28]; decide +kernel
theorem d28_51 : decode (mC 28) 51 = .ok (.invokevirtual 33, 3) := by rw [mC_28]; decide +kernel
theorem d28_54 : decode (mC 28) 54 = .ok (.ifCond .eq 11, 3) := by rw [mC_28]; decide +kernel
theorem d28_57 : decode (mC 28) 57 = .ok (.aload_n 0, 1) := by rw [mC_28]; decide +kernel
theorem d28_58 : decode (mC 28) 58 = .ok (.aload_n 1, 1) := by rw [mC_28]; decide +kernel
theorem d28_59 : decode (mC 28) 59 = .ok (.invokevirtual 37, 3) := by rw [mC_28]; decide +kernel
theorem d28_62 : decode (mC 28) 62 = .ok (.ifCond .ne 5, 3) := by rw [mC_28]; decide +kernel
theorem d28_65 : decode (mC 28) 65 = .ok (.iconst 0, 1) := by rw [mC_28]; decide +kernel
theorem d28_66 : decode (mC 28) 66 = .ok (.ireturn, 1) := by rw [mC_28]; decide +kernel
theorem d28_67 : decode (mC 28) 67 = .ok (.aload_n 0, 1) := by rw [mC_28]; decide +kernel
theorem d28_68 : decode (mC 28) 68 = .ok (.getfield 18, 3) := by rw [mC_28]; decide +kernel
theorem d28_71 : decode (mC 28) 71 = .ok (.iload_n 3, 1) := by rw [mC_28]; decide +kernel
theorem d28_72 : decode (mC 28) 72 = .ok (.isub, 1) := by rw [mC_28]; decide +kernel
theorem d28_73 : decode (mC 28) 73 = .ok (.iload_n 2, 1) := by rw [mC_28]; decide +kernel
theorem d28_74 : decode (mC 28) 74 = .ok (.if_icmp .ne 14, 3) := by rw [mC_28]; decide +kernel
theorem d28_77 : decode (mC 28) 77 = .ok (.aload_n 0, 1) := by rw [mC_28]; decide +kernel
theorem d28_78 : decode (mC 28) 78 = .ok (.invokevirtual 40, 3) := by rw [mC_28]; decide +kernel
theorem d28_81 : decode (mC 28) 81 = .ok (.ifCond .eq 7, 3) := by rw [mC_28]; decide +kernel
theorem d28_84 : decode (mC 28) 84 = .ok (.iconst 1, 1) := by rw [mC_28]; decide +kernel
theorem d28_85 : decode (mC 28) 85 = .ok (.goto 4, 3) := by rw [mC_28]; decide +kernel
theorem d28_88 : decode (mC 28) 88 = .ok (.iconst 0, 1) := by rw [mC_28]; decide +kernel
theorem d28_89 : decode (mC 28) 89 = .ok (.ireturn, 1) := by rw [mC_28]; decide +kernel
theorem s28_0 {S : Nat × (Nat → Int32)} {L : List (Option Value)} {st : List Value} {n : Nat} {Q : xQ} {μ : xM} {a : Nat} (hl : L[0]? = some (some (.ref a))) (h : x_V S 28 1 L (.ref a :: st) μ n Q) : x_V S 28 0 L (st) μ n Q := x_aload_n d28_0 hl h
theorem s28_0N {S : Nat × (Nat → Int32)} {L : List (Option Value)} {st : List Value} {n : Nat} {Q : xQ} {μ : xM} (hl : L[0]? = some (some .null)) (h : x_V S 28 1 L (.null :: st) μ n Q) : x_V S 28 0 L st μ n Q := x_aload_nN d28_0 hl h
theorem s28_1 {S : Nat × (Nat → Int32)} {L : List (Option Value)} {st : List Value} {n : Nat} {Q : xQ} {μ : xM}  (h : x_V S 28 2 L (.int (I 0) :: st) μ n Q) : x_V S 28 1 L (st) μ n Q := x_iconst (by decide +kernel) d28_1 h
theorem s28_2 {S : Nat × (Nat → Int32)} {L : List (Option Value)} {st : List Value} {n : Nat} {Q : xQ} {g : Nat → Nat → Int} {a : Nat} {x : Int} (hs : x_sh a = (1, 2)) (hp : x_pt a 1 = none) (ha : a ≠ x_out) (h : x_V S 28 5 L (st) (x_vm (x_uf g a 1 x)) n Q) : x_V S 28 2 L (.int (I x) :: .ref a :: st) (x_vm g) n Q := v_put (i := 1) cf1 d28_2 (by decide) rfl w53 hs rfl hp ha h
theorem s28_5 {S : Nat × (Nat → Int32)} {L : List (Option Value)} {st : List Value} {n : Nat} {Q : xQ} {μ : xM} {a : Nat} (hl : L[0]? = some (some (.ref a))) (h : x_V S 28 6 L (.ref a :: st) μ n Q) : x_V S 28 5 L (st) μ n Q := x_aload_n d28_5 hl h
theorem s28_5N {S : Nat × (Nat → Int32)} {L : List (Option Value)} {st : List Value} {n : Nat} {Q : xQ} {μ : xM} (hl : L[0]? = some (some .null)) (h : x_V S 28 6 L (.null :: st) μ n Q) : x_V S 28 5 L st μ n Q := x_aload_nN d28_5 hl h
theorem s28_6 {S : Nat × (Nat → Int32)} {L : List (Option Value)} {st : List Value} {n : Nat} {Q : xQ} {μ : xM}  (h : x_V S 28 8 L (.int (I 8) :: st) μ n Q) : x_V S 28 6 L (st) μ n Q := x_bipush (by decide +kernel) d28_6 h
theorem s28_8 {S : Nat × (Nat → Int32)} {L : List (Option Value)} {st : List Value} {n : Nat} {Q : xQ} {μ : xM} {x0 : Int32} {a : Nat} (hs : x_sh a = (1, 2)) (hst : st.length ≤ 4) (h : x_V S 32 0 [some (.ref a), some (.int x0), none, none] [] μ n (x_bk S 28 8 L st Q)) : x_V S 28 8 L (.int x0 :: .ref a :: st) μ n Q := x_callV (k' := 32) (as := [.int x0]) (na := 1) d28_8 ⟨w498, by decide +kernel, by decide, by decide, by decide, by decide, by decide⟩ cf1 w495 w497 wp6 (by decide +kernel) rfl hs (fun v hv => by
    simp only [List.mem_cons, List.not_mem_nil, or_false] at hv
    rcases hv with rfl <;> first | rfl | assumption) hst h
theorem s28_11 {S : Nat × (Nat → Int32)} {L : List (Option Value)} {st : List Value} {n : Nat} {Q : xQ} {μ : xM} {x : Int} (hx : ib x) (kt : x = 0 → x_V S 28 32 L (st) μ n Q) (kf : x ≠ 0 → x_V S 28 14 L (st) μ n Q) : x_V S 28 11 L (.int (I x) :: st) μ n Q := v_if_eq d28_11 (by decide) hx kt kf
theorem s28_14 {S : Nat × (Nat → Int32)} {L : List (Option Value)} {st : List Value} {n : Nat} {Q : xQ} {μ : xM} {a : Nat} (hl : L[0]? = some (some (.ref a))) (h : x_V S 28 15 L (.ref a :: st) μ n Q) : x_V S 28 14 L (st) μ n Q := x_aload_n d28_14 hl h
theorem s28_14N {S : Nat × (Nat → Int32)} {L : List (Option Value)} {st : List Value} {n : Nat} {Q : xQ} {μ : xM} (hl : L[0]? = some (some .null)) (h : x_V S 28 15 L (.null :: st) μ n Q) : x_V S 28 14 L st μ n Q := x_aload_nN d28_14 hl h
theorem s28_15 {S : Nat × (Nat → Int32)} {L : List (Option Value)} {st : List Value} {n : Nat} {Q : xQ} {μ : xM}  {a : Nat} (hs : x_sh a = (1, 2)) (hst : st.length ≤ 4) (h : x_V S 34 0 [some (.ref a), none] [] μ n (x_bk S 28 15 L st Q)) : x_V S 28 15 L (.ref a :: st) μ n Q := x_callV (k' := 34) (as := []) (na := 0) d28_15 ⟨w503, by decide +kernel, by decide, by decide, by decide, by decide, by decide⟩ cf1 w500 w502 wp7 (by decide +kernel) rfl hs (fun v hv => by
    cases hv) hst h
theorem s28_18 {S : Nat × (Nat → Int32)} {L : List (Option Value)} {st : List Value} {n : Nat} {Q : xQ} {μ : xM}  (h : x_V S 28 20 L (.int (I 70) :: st) μ n Q) : x_V S 28 18 L (st) μ n Q := x_bipush (by decide +kernel) d28_18 h
theorem s28_20 {S : Nat × (Nat → Int32)} {L : List (Option Value)} {st : List Value} {n : Nat} {Q : xQ} {μ : xM} {x y : Int} (hx : ib x) (hy : ib y) (kt : x ≠ y → x_V S 28 32 L (st) μ n Q) (kf : x = y → x_V S 28 23 L (st) μ n Q) : x_V S 28 20 L (.int (I y) :: .int (I x) :: st) μ n Q := v_icmp_ne d28_20 (by decide) hx hy kt kf
theorem s28_23 {S : Nat × (Nat → Int32)} {L : List (Option Value)} {st : List Value} {n : Nat} {Q : xQ} {μ : xM} {a : Nat} (hl : L[0]? = some (some (.ref a))) (h : x_V S 28 24 L (.ref a :: st) μ n Q) : x_V S 28 23 L (st) μ n Q := x_aload_n d28_23 hl h
theorem s28_23N {S : Nat × (Nat → Int32)} {L : List (Option Value)} {st : List Value} {n : Nat} {Q : xQ} {μ : xM} (hl : L[0]? = some (some .null)) (h : x_V S 28 24 L (.null :: st) μ n Q) : x_V S 28 23 L st μ n Q := x_aload_nN d28_23 hl h
theorem s28_24 {S : Nat × (Nat → Int32)} {L : List (Option Value)} {st : List Value} {n : Nat} {Q : xQ} {μ : xM}  (h : x_V S 28 26 L (.int (I 9) :: st) μ n Q) : x_V S 28 24 L (st) μ n Q := x_bipush (by decide +kernel) d28_24 h
theorem s28_26 {S : Nat × (Nat → Int32)} {L : List (Option Value)} {st : List Value} {n : Nat} {Q : xQ} {μ : xM} {x0 : Int32} {a : Nat} (hs : x_sh a = (1, 2)) (hst : st.length ≤ 4) (h : x_V S 32 0 [some (.ref a), some (.int x0), none, none] [] μ n (x_bk S 28 26 L st Q)) : x_V S 28 26 L (.int x0 :: .ref a :: st) μ n Q := x_callV (k' := 32) (as := [.int x0]) (na := 1) d28_26 ⟨w498, by decide +kernel, by decide, by decide, by decide, by decide, by decide⟩ cf1 w495 w497 wp6 (by decide +kernel) rfl hs (fun v hv => by
    simp only [List.mem_cons, List.not_mem_nil, or_false] at hv
    rcases hv with rfl <;> first | rfl | assumption) hst h
theorem s28_29 {S : Nat × (Nat → Int32)} {L : List (Option Value)} {st : List Value} {n : Nat} {Q : xQ} {μ : xM} {x : Int} (hx : ib x) (kt : x ≠ 0 → x_V S 28 34 L (st) μ n Q) (kf : x = 0 → x_V S 28 32 L (st) μ n Q) : x_V S 28 29 L (.int (I x) :: st) μ n Q := v_if_ne d28_29 (by decide) hx kt kf
theorem s28_32 {S : Nat × (Nat → Int32)} {L : List (Option Value)} {st : List Value} {n : Nat} {Q : xQ} {μ : xM}  (h : x_V S 28 33 L (.int (I 0) :: st) μ n Q) : x_V S 28 32 L (st) μ n Q := x_iconst (by decide +kernel) d28_32 h
theorem s28_33 {S : Nat × (Nat → Int32)} {L : List (Option Value)} {st : List Value} {n : Nat} {Q : xQ} {μ : xM} {v : Int} (hv : v = 0 ∨ v = 1) (h : Q (.inl (some (.int (I v)))) μ n) : x_V S 28 33 L (.int (I v) :: []) μ n Q := v_zreturn d28_33 rfl hv h
theorem s28_34 {S : Nat × (Nat → Int32)} {L : List (Option Value)} {st : List Value} {n : Nat} {Q : xQ} {μ : xM} {a : Nat} (hl : L[0]? = some (some (.ref a))) (h : x_V S 28 35 L (.ref a :: st) μ n Q) : x_V S 28 34 L (st) μ n Q := x_aload_n d28_34 hl h
theorem s28_34N {S : Nat × (Nat → Int32)} {L : List (Option Value)} {st : List Value} {n : Nat} {Q : xQ} {μ : xM} (hl : L[0]? = some (some .null)) (h : x_V S 28 35 L (.null :: st) μ n Q) : x_V S 28 34 L st μ n Q := x_aload_nN d28_34 hl h
theorem s28_35 {S : Nat × (Nat → Int32)} {L : List (Option Value)} {st : List Value} {n : Nat} {Q : xQ} {μ : xM}  {a : Nat} (hs : x_sh a = (1, 2)) (hst : st.length ≤ 4) (h : x_V S 33 0 [some (.ref a), none, none] [] μ n (x_bk S 28 35 L st Q)) : x_V S 28 35 L (.ref a :: st) μ n Q := x_callV (k' := 33) (as := []) (na := 0) d28_35 ⟨w511, by decide +kernel, by decide, by decide, by decide, by decide, by decide⟩ cf1 w508 w510 wp9 (by decide +kernel) rfl hs (fun v hv => by
    cases hv) hst h
theorem s28_38 {S : Nat × (Nat → Int32)} {L : List (Option Value)} {st : List Value} {n : Nat} {Q : xQ} {μ : xM} {x : Int32} (h : x_V S 28 39 (L.set 2 (some (.int x))) (st) μ n Q) : x_V S 28 38 L (.int x :: st) μ n Q := x_istore_n d28_38 (by decide) h
theorem s28_39 {S : Nat × (Nat → Int32)} {L : List (Option Value)} {st : List Value} {n : Nat} {Q : xQ} {μ : xM} {a : Nat} (hl : L[0]? = some (some (.ref a))) (h : x_V S 28 40 L (.ref a :: st) μ n Q) : x_V S 28 39 L (st) μ n Q := x_aload_n d28_39 hl h
theorem s28_39N {S : Nat × (Nat → Int32)} {L : List (Option Value)} {st : List Value} {n : Nat} {Q : xQ} {μ : xM} (hl : L[0]? = some (some .null)) (h : x_V S 28 40 L (.null :: st) μ n Q) : x_V S 28 39 L st μ n Q := x_aload_nN d28_39 hl h
theorem s28_40 {S : Nat × (Nat → Int32)} {L : List (Option Value)} {st : List Value} {n : Nat} {Q : xQ} {g : Nat → Nat → Int} {a : Nat} (hs : x_sh a = (1, 2)) (hp : x_pt a 1 = none) (ha : a ≠ x_out) (h : x_V S 28 43 L (.int (I (g a 1)) :: st) (x_vm g) n Q) : x_V S 28 40 L (.ref a :: st) (x_vm g) n Q := v_get (i := 1) cf1 d28_40 (by decide) w53 hs hp ha h
theorem s28_43 {S : Nat × (Nat → Int32)} {L : List (Option Value)} {st : List Value} {n : Nat} {Q : xQ} {μ : xM} {x : Int32} (h : x_V S 28 44 (L.set 3 (some (.int x))) (st) μ n Q) : x_V S 28 43 L (.int x :: st) μ n Q := x_istore_n d28_43 (by decide) h
theorem s28_44 {S : Nat × (Nat → Int32)} {L : List (Option Value)} {st : List Value} {n : Nat} {Q : xQ} {μ : xM} {x : Int32} (hl : L[2]? = some (some (.int x))) (h : x_V S 28 45 L (.int x :: st) μ n Q) : x_V S 28 44 L (st) μ n Q := x_iload_n d28_44 hl h
theorem s28_45 {S : Nat × (Nat → Int32)} {L : List (Option Value)} {st : List Value} {n : Nat} {Q : xQ} {μ : xM}  (h : x_V S 28 46 L (.int (I (-1)) :: st) μ n Q) : x_V S 28 45 L (st) μ n Q := x_iconst (by decide +kernel) d28_45 h
theorem s28_46 {S : Nat × (Nat → Int32)} {L : List (Option Value)} {st : List Value} {n : Nat} {Q : xQ} {μ : xM} {x y : Int} (hx : ib x) (hy : ib y) (kt : x = y → x_V S 28 65 L (st) μ n Q) (kf : x ≠ y → x_V S 28 49 L (st) μ n Q) : x_V S 28 46 L (.int (I y) :: .int (I x) :: st) μ n Q := v_icmp_eq d28_46 (by decide) hx hy kt kf
theorem s28_49 {S : Nat × (Nat → Int32)} {L : List (Option Value)} {st : List Value} {n : Nat} {Q : xQ} {μ : xM} {a : Nat} (hl : L[0]? = some (some (.ref a))) (h : x_V S 28 50 L (.ref a :: st) μ n Q) : x_V S 28 49 L (st) μ n Q := x_aload_n d28_49 hl h
theorem s28_49N {S : Nat × (Nat → Int32)} {L : List (Option Value)} {st : List Value} {n : Nat} {Q : xQ} {μ : xM} (hl : L[0]? = some (some .null)) (h : x_V S 28 50 L (.null :: st) μ n Q) : x_V S 28 49 L st μ n Q := x_aload_nN d28_49 hl h
theorem s28_50 {S : Nat × (Nat → Int32)} {L : List (Option Value)} {st : List Value} {n : Nat} {Q : xQ} {μ : xM} {a : Nat} (hl : L[1]? = some (some (.ref a))) (h : x_V S 28 51 L (.ref a :: st) μ n Q) : x_V S 28 50 L (st) μ n Q := x_aload_n d28_50 hl h
theorem s28_50N {S : Nat × (Nat → Int32)} {L : List (Option Value)} {st : List Value} {n : Nat} {Q : xQ} {μ : xM} (hl : L[1]? = some (some .null)) (h : x_V S 28 51 L (.null :: st) μ n Q) : x_V S 28 50 L st μ n Q := x_aload_nN d28_50 hl h
theorem s28_51 {S : Nat × (Nat → Int32)} {L : List (Option Value)} {st : List Value} {n : Nat} {Q : xQ} {μ : xM} {v0 : Value} (hc0 : v0.category = 1) {a : Nat} (hs : x_sh a = (1, 2)) (hst : st.length ≤ 4) (h : x_V S 29 0 [some (.ref a), some (v0), none, none, none] [] μ n (x_bk S 28 51 L st Q)) : x_V S 28 51 L (v0 :: .ref a :: st) μ n Q := x_callV (k' := 29) (as := [v0]) (na := 1) d28_51 ⟨w515, by decide +kernel, by decide, by decide, by decide, by decide, by decide⟩ cf1 w512 w514 wp10 (by decide +kernel) rfl hs (fun v hv => by
    simp only [List.mem_cons, List.not_mem_nil, or_false] at hv
    rcases hv with rfl <;> first | rfl | assumption) hst h
theorem s28_54 {S : Nat × (Nat → Int32)} {L : List (Option Value)} {st : List Value} {n : Nat} {Q : xQ} {μ : xM} {x : Int} (hx : ib x) (kt : x = 0 → x_V S 28 65 L (st) μ n Q) (kf : x ≠ 0 → x_V S 28 57 L (st) μ n Q) : x_V S 28 54 L (.int (I x) :: st) μ n Q := v_if_eq d28_54 (by decide) hx kt kf
theorem s28_57 {S : Nat × (Nat → Int32)} {L : List (Option Value)} {st : List Value} {n : Nat} {Q : xQ} {μ : xM} {a : Nat} (hl : L[0]? = some (some (.ref a))) (h : x_V S 28 58 L (.ref a :: st) μ n Q) : x_V S 28 57 L (st) μ n Q := x_aload_n d28_57 hl h
theorem s28_57N {S : Nat × (Nat → Int32)} {L : List (Option Value)} {st : List Value} {n : Nat} {Q : xQ} {μ : xM} (hl : L[0]? = some (some .null)) (h : x_V S 28 58 L (.null :: st) μ n Q) : x_V S 28 57 L st μ n Q := x_aload_nN d28_57 hl h
theorem s28_58 {S : Nat × (Nat → Int32)} {L : List (Option Value)} {st : List Value} {n : Nat} {Q : xQ} {μ : xM} {a : Nat} (hl : L[1]? = some (some (.ref a))) (h : x_V S 28 59 L (.ref a :: st) μ n Q) : x_V S 28 58 L (st) μ n Q := x_aload_n d28_58 hl h
theorem s28_58N {S : Nat × (Nat → Int32)} {L : List (Option Value)} {st : List Value} {n : Nat} {Q : xQ} {μ : xM} (hl : L[1]? = some (some .null)) (h : x_V S 28 59 L (.null :: st) μ n Q) : x_V S 28 58 L st μ n Q := x_aload_nN d28_58 hl h
theorem s28_59 {S : Nat × (Nat → Int32)} {L : List (Option Value)} {st : List Value} {n : Nat} {Q : xQ} {μ : xM} {v0 : Value} (hc0 : v0.category = 1) {a : Nat} (hs : x_sh a = (1, 2)) (hst : st.length ≤ 4) (h : x_V S 30 0 [some (.ref a), some (v0), none, none, none] [] μ n (x_bk S 28 59 L st Q)) : x_V S 28 59 L (v0 :: .ref a :: st) μ n Q := x_callV (k' := 30) (as := [v0]) (na := 1) d28_59 ⟨w521, by decide +kernel, by decide, by decide, by decide, by decide, by decide⟩ cf1 w518 w520 wp11 (by decide +kernel) rfl hs (fun v hv => by
    simp only [List.mem_cons, List.not_mem_nil, or_false] at hv
    rcases hv with rfl <;> first | rfl | assumption) hst h
theorem s28_62 {S : Nat × (Nat → Int32)} {L : List (Option Value)} {st : List Value} {n : Nat} {Q : xQ} {μ : xM} {x : Int} (hx : ib x) (kt : x ≠ 0 → x_V S 28 67 L (st) μ n Q) (kf : x = 0 → x_V S 28 65 L (st) μ n Q) : x_V S 28 62 L (.int (I x) :: st) μ n Q := v_if_ne d28_62 (by decide) hx kt kf
theorem s28_65 {S : Nat × (Nat → Int32)} {L : List (Option Value)} {st : List Value} {n : Nat} {Q : xQ} {μ : xM}  (h : x_V S 28 66 L (.int (I 0) :: st) μ n Q) : x_V S 28 65 L (st) μ n Q := x_iconst (by decide +kernel) d28_65 h
theorem s28_66 {S : Nat × (Nat → Int32)} {L : List (Option Value)} {st : List Value} {n : Nat} {Q : xQ} {μ : xM} {v : Int} (hv : v = 0 ∨ v = 1) (h : Q (.inl (some (.int (I v)))) μ n) : x_V S 28 66 L (.int (I v) :: []) μ n Q := v_zreturn d28_66 rfl hv h
theorem s28_67 {S : Nat × (Nat → Int32)} {L : List (Option Value)} {st : List Value} {n : Nat} {Q : xQ} {μ : xM} {a : Nat} (hl : L[0]? = some (some (.ref a))) (h : x_V S 28 68 L (.ref a :: st) μ n Q) : x_V S 28 67 L (st) μ n Q := x_aload_n d28_67 hl h
theorem s28_67N {S : Nat × (Nat → Int32)} {L : List (Option Value)} {st : List Value} {n : Nat} {Q : xQ} {μ : xM} (hl : L[0]? = some (some .null)) (h : x_V S 28 68 L (.null :: st) μ n Q) : x_V S 28 67 L st μ n Q := x_aload_nN d28_67 hl h
theorem s28_68 {S : Nat × (Nat → Int32)} {L : List (Option Value)} {st : List Value} {n : Nat} {Q : xQ} {g : Nat → Nat → Int} {a : Nat} (hs : x_sh a = (1, 2)) (hp : x_pt a 1 = none) (ha : a ≠ x_out) (h : x_V S 28 71 L (.int (I (g a 1)) :: st) (x_vm g) n Q) : x_V S 28 68 L (.ref a :: st) (x_vm g) n Q := v_get (i := 1) cf1 d28_68 (by decide) w53 hs hp ha h
theorem s28_71 {S : Nat × (Nat → Int32)} {L : List (Option Value)} {st : List Value} {n : Nat} {Q : xQ} {μ : xM} {x : Int32} (hl : L[3]? = some (some (.int x))) (h : x_V S 28 72 L (.int x :: st) μ n Q) : x_V S 28 71 L (st) μ n Q := x_iload_n d28_71 hl h
theorem s28_72 {S : Nat × (Nat → Int32)} {L : List (Option Value)} {st : List Value} {n : Nat} {Q : xQ} {μ : xM} {x y : Int} (h : x_V S 28 73 L (.int (I (x - y)) :: st) μ n Q) : x_V S 28 72 L (.int (I y) :: .int (I x) :: st) μ n Q := v_isub d28_72 h
theorem s28_73 {S : Nat × (Nat → Int32)} {L : List (Option Value)} {st : List Value} {n : Nat} {Q : xQ} {μ : xM} {x : Int32} (hl : L[2]? = some (some (.int x))) (h : x_V S 28 74 L (.int x :: st) μ n Q) : x_V S 28 73 L (st) μ n Q := x_iload_n d28_73 hl h
theorem s28_74 {S : Nat × (Nat → Int32)} {L : List (Option Value)} {st : List Value} {n : Nat} {Q : xQ} {μ : xM} {x y : Int} (hx : ib x) (hy : ib y) (kt : x ≠ y → x_V S 28 88 L (st) μ n Q) (kf : x = y → x_V S 28 77 L (st) μ n Q) : x_V S 28 74 L (.int (I y) :: .int (I x) :: st) μ n Q := v_icmp_ne d28_74 (by decide) hx hy kt kf
theorem s28_77 {S : Nat × (Nat → Int32)} {L : List (Option Value)} {st : List Value} {n : Nat} {Q : xQ} {μ : xM} {a : Nat} (hl : L[0]? = some (some (.ref a))) (h : x_V S 28 78 L (.ref a :: st) μ n Q) : x_V S 28 77 L (st) μ n Q := x_aload_n d28_77 hl h
theorem s28_77N {S : Nat × (Nat → Int32)} {L : List (Option Value)} {st : List Value} {n : Nat} {Q : xQ} {μ : xM} (hl : L[0]? = some (some .null)) (h : x_V S 28 78 L (.null :: st) μ n Q) : x_V S 28 77 L st μ n Q := x_aload_nN d28_77 hl h
theorem s28_78 {S : Nat × (Nat → Int32)} {L : List (Option Value)} {st : List Value} {n : Nat} {Q : xQ} {μ : xM}  {a : Nat} (hs : x_sh a = (1, 2)) (hst : st.length ≤ 4) (h : x_V S 31 0 [some (.ref a), none, none] [] μ n (x_bk S 28 78 L st Q)) : x_V S 28 78 L (.ref a :: st) μ n Q := x_callV (k' := 31) (as := []) (na := 0) d28_78 ⟨w531, by decide +kernel, by decide, by decide, by decide, by decide, by decide⟩ cf1 w528 w530 wp13 (by decide +kernel) rfl hs (fun v hv => by
    cases hv) hst h
theorem s28_81 {S : Nat × (Nat → Int32)} {L : List (Option Value)} {st : List Value} {n : Nat} {Q : xQ} {μ : xM} {x : Int} (hx : ib x) (kt : x = 0 → x_V S 28 88 L (st) μ n Q) (kf : x ≠ 0 → x_V S 28 84 L (st) μ n Q) : x_V S 28 81 L (.int (I x) :: st) μ n Q := v_if_eq d28_81 (by decide) hx kt kf
theorem s28_84 {S : Nat × (Nat → Int32)} {L : List (Option Value)} {st : List Value} {n : Nat} {Q : xQ} {μ : xM}  (h : x_V S 28 85 L (.int (I 1) :: st) μ n Q) : x_V S 28 84 L (st) μ n Q := x_iconst (by decide +kernel) d28_84 h
theorem s28_85 {S : Nat × (Nat → Int32)} {L : List (Option Value)} {st : List Value} {n : Nat} {Q : xQ} {μ : xM}  (h : x_V S 28 89 L (st) μ n Q) : x_V S 28 85 L (st) μ n Q := x_goto (tgt := 89) (by decide) d28_85 h
theorem s28_88 {S : Nat × (Nat → Int32)} {L : List (Option Value)} {st : List Value} {n : Nat} {Q : xQ} {μ : xM}  (h : x_V S 28 89 L (.int (I 0) :: st) μ n Q) : x_V S 28 88 L (st) μ n Q := x_iconst (by decide +kernel) d28_88 h
theorem s28_89 {S : Nat × (Nat → Int32)} {L : List (Option Value)} {st : List Value} {n : Nat} {Q : xQ} {μ : xM} {v : Int} (hv : v = 0 ∨ v = 1) (h : Q (.inl (some (.int (I v)))) μ n) : x_V S 28 89 L (.int (I v) :: []) μ n Q := v_zreturn d28_89 rfl hv h
theorem mC_29 : mC 29 = prog_3_method_3_code := rfl
theorem d29_0 : decode (mC 29) 0 = .ok (.aload_n 0, 1) := by rw [mC_29]; decide +kernel
theorem d29_1 : decode (mC 29) 1 = .ok (.bipush 35, 2) := by rw [mC_29]; decide +kernel
theorem d29_3 : decode (mC 29) 3 = .ok (.invokevirtual 22, 3) := by rw [mC_29]; decide +kernel
theorem d29_6 : decode (mC 29) 6 = .ok (.ifCond .ne 5, 3) := by rw [mC_29]; decide +kernel
theorem d29_9 : decode (mC 29) 9 = .ok (.iconst 0, 1) := by rw [mC_29]; decide +kernel
theorem d29_10 : decode (mC 29) 10 = .ok (.ireturn, 1) := by rw [mC_29]; decide +kernel
theorem d29_11 : decode (mC 29) 11 = .ok (.aload_n 0, 1) := by rw [mC_29]; decide +kernel
theorem d29_12 : decode (mC 29) 12 = .ok (.invokevirtual 26, 3) := by rw [mC_29]; decide +kernel
theorem d29_15 : decode (mC 29) 15 = .ok (.istore_n 2, 1) := by rw [mC_29]; decide +kernel
theorem d29_16 : decode (mC 29) 16 = .ok (.iload_n 2, 1) := by rw [mC_29]; decide +kernel
theorem d29_17 : decode (mC 29) 17 = .ok (.invokestatic 44, 3) := by rw [mC_29]; decide +kernel
theorem d29_20 : decode (mC 29) 20 = .ok (.ifCond .eq 12, 3) := by rw [mC_29]; decide +kernel
theorem d29_23 : decode (mC 29) 23 = .ok (.aload_n 0, 1) := by rw [mC_29]; decide +kernel
theorem d29_24 : decode (mC 29) 24 = .ok (.bipush 34, 2) := by rw [mC_29]; decide +kernel
theorem d29_26 : decode (mC 29) 26 = .ok (.invokevirtual 22, 3) := by rw [mC_29]; decide +kernel
theorem d29_29 : decode (mC 29) 29 = .ok (.ifCond .ne 5, 3) := by rw [mC_29]; decide +kernel
theorem d29_32 : decode (mC 29) 32 = .ok (.iconst 0, 1) := by rw [mC_29]; decide +kernel
theorem d29_33 : decode (mC 29) 33 = .ok (.ireturn, 1) := by rw [mC_29]; decide +kernel
theorem d29_34 : decode (mC 29) 34 = .ok (.aload_n 0, 1) := by rw [mC_29]; decide +kernel
theorem d29_35 : decode (mC 29) 35 = .ok (.invokevirtual 30, 3) := by rw [mC_29]; decide +kernel
theorem d29_38 : decode (mC 29) 38 = .ok (.istore_n 3, 1) := by rw [mC_29]; decide +kernel
theorem d29_39 : decode (mC 29) 39 = .ok (.aload_n 0, 1) := by rw [mC_29]; decide +kernel
theorem d29_40 : decode (mC 29) 40 = .ok (.bipush 43, 2) := by rw [mC_29]; decide +kernel
theorem d29_42 : decode (mC 29) 42 = .ok (.invokevirtual 22, 3) := by rw [mC_29]; decide +kernel
theorem d29_45 : decode (mC 29) 45 = .ok (.istore 4, 2) := by rw [mC_29]; decide +kernel
theorem d29_47 : decode (mC 29) 47 = .ok (.aload_n 1, 1) := by rw [mC_29]; decide +kernel
theorem d29_48 : decode (mC 29) 48 = .ok (.iload_n 2, 1) := by rw [mC_29]; decide +kernel
theorem d29_49 : decode (mC 29) 49 = .ok (.iload_n 3, 1) := by rw [mC_29]; decide +kernel
theorem d29_50 : decode (mC 29) 50 = .ok (.iload 4, 2) := by rw [mC_29]; decide +kernel
theorem d29_52 : decode (mC 29) 52 = .ok (.invokevirtual 49, 3) := by rw [mC_29]; decide +kernel
theorem d29_55 : decode (mC 29) 55 = .ok (.iload_n 3, 1) := by rw [mC_29]; decide +kernel
theorem d29_56 : decode (mC 29) 56 = .ok (.iconst (-1), 1) := by rw [mC_29]; decide +kernel
theorem d29_57 : decode (mC 29) 57 = .ok (.if_icmp .eq 21, 3) := by rw [mC_29]; decide +kernel
theorem d29_60 : decode (mC 29) 60 = .ok (.iload 4, 2) := by rw [mC_29]; decide +kernel
theorem d29_62 : decode (mC 29) 62 = .ok (.ifCond .eq 12, 3) := by rw [mC_29]; decide +kernel
theorem d29_65 : decode (mC 29) 65 = .ok (.aload_n 0, 1) := by rw [mC_29]; decide +kernel
theorem d29_66 : decode (mC 29) 66 = .ok (.invokevirtual 26, 3) := by rw [mC_29]; decide +kernel
theorem d29_69 : decode (mC 29) 69 = .ok (.bipush 89, 2) := by rw [mC_29]; decide +kernel
theorem d29_71 : decode (mC 29) 71 = .ok (.if_icmp .ne 7, 3) := by rw [mC_29]; decide +kernel
theorem d29_74 : decode (mC 29) 74 = .ok (.iconst 1, 1) := by rw [mC_29]; decide +kernel
theorem d29_75 : decode (mC 29) 75 = .ok (.goto 4, 3) := by rw [mC_29]; decide +kernel
theorem d29_78 : decode (mC 29) 78 = .ok (.iconst 0, 1) := by rw [mC_29]; decide +kernel
theorem d29_79 : decode (mC 29) 79 = .ok (.ireturn, 1) := by rw [mC_29]; decide +kernel
theorem s29_0 {S : Nat × (Nat → Int32)} {L : List (Option Value)} {st : List Value} {n : Nat} {Q : xQ} {μ : xM} {a : Nat} (hl : L[0]? = some (some (.ref a))) (h : x_V S 29 1 L (.ref a :: st) μ n Q) : x_V S 29 0 L (st) μ n Q := x_aload_n d29_0 hl h
theorem s29_0N {S : Nat × (Nat → Int32)} {L : List (Option Value)} {st : List Value} {n : Nat} {Q : xQ} {μ : xM} (hl : L[0]? = some (some .null)) (h : x_V S 29 1 L (.null :: st) μ n Q) : x_V S 29 0 L st μ n Q := x_aload_nN d29_0 hl h
theorem s29_1 {S : Nat × (Nat → Int32)} {L : List (Option Value)} {st : List Value} {n : Nat} {Q : xQ} {μ : xM}  (h : x_V S 29 3 L (.int (I 35) :: st) μ n Q) : x_V S 29 1 L (st) μ n Q := x_bipush (by decide +kernel) d29_1 h
theorem s29_3 {S : Nat × (Nat → Int32)} {L : List (Option Value)} {st : List Value} {n : Nat} {Q : xQ} {μ : xM} {x0 : Int32} {a : Nat} (hs : x_sh a = (1, 2)) (hst : st.length ≤ 4) (h : x_V S 32 0 [some (.ref a), some (.int x0), none, none] [] μ n (x_bk S 29 3 L st Q)) : x_V S 29 3 L (.int x0 :: .ref a :: st) μ n Q := x_callV (k' := 32) (as := [.int x0]) (na := 1) d29_3 ⟨w498, by decide +kernel, by decide, by decide, by decide, by decide, by decide⟩ cf1 w495 w497 wp6 (by decide +kernel) rfl hs (fun v hv => by
    simp only [List.mem_cons, List.not_mem_nil, or_false] at hv
    rcases hv with rfl <;> first | rfl | assumption) hst h
theorem s29_6 {S : Nat × (Nat → Int32)} {L : List (Option Value)} {st : List Value} {n : Nat} {Q : xQ} {μ : xM} {x : Int} (hx : ib x) (kt : x ≠ 0 → x_V S 29 11 L (st) μ n Q) (kf : x = 0 → x_V S 29 9 L (st) μ n Q) : x_V S 29 6 L (.int (I x) :: st) μ n Q := v_if_ne d29_6 (by decide) hx kt kf
theorem s29_9 {S : Nat × (Nat → Int32)} {L : List (Option Value)} {st : List Value} {n : Nat} {Q : xQ} {μ : xM}  (h : x_V S 29 10 L (.int (I 0) :: st) μ n Q) : x_V S 29 9 L (st) μ n Q := x_iconst (by decide +kernel) d29_9 h
theorem s29_10 {S : Nat × (Nat → Int32)} {L : List (Option Value)} {st : List Value} {n : Nat} {Q : xQ} {μ : xM} {v : Int} (hv : v = 0 ∨ v = 1) (h : Q (.inl (some (.int (I v)))) μ n) : x_V S 29 10 L (.int (I v) :: []) μ n Q := v_zreturn d29_10 rfl hv h
theorem s29_11 {S : Nat × (Nat → Int32)} {L : List (Option Value)} {st : List Value} {n : Nat} {Q : xQ} {μ : xM} {a : Nat} (hl : L[0]? = some (some (.ref a))) (h : x_V S 29 12 L (.ref a :: st) μ n Q) : x_V S 29 11 L (st) μ n Q := x_aload_n d29_11 hl h
theorem s29_11N {S : Nat × (Nat → Int32)} {L : List (Option Value)} {st : List Value} {n : Nat} {Q : xQ} {μ : xM} (hl : L[0]? = some (some .null)) (h : x_V S 29 12 L (.null :: st) μ n Q) : x_V S 29 11 L st μ n Q := x_aload_nN d29_11 hl h
theorem s29_12 {S : Nat × (Nat → Int32)} {L : List (Option Value)} {st : List Value} {n : Nat} {Q : xQ} {μ : xM}  {a : Nat} (hs : x_sh a = (1, 2)) (hst : st.length ≤ 4) (h : x_V S 34 0 [some (.ref a), none] [] μ n (x_bk S 29 12 L st Q)) : x_V S 29 12 L (.ref a :: st) μ n Q := x_callV (k' := 34) (as := []) (na := 0) d29_12 ⟨w503, by decide +kernel, by decide, by decide, by decide, by decide, by decide⟩ cf1 w500 w502 wp7 (by decide +kernel) rfl hs (fun v hv => by
    cases hv) hst h
theorem s29_15 {S : Nat × (Nat → Int32)} {L : List (Option Value)} {st : List Value} {n : Nat} {Q : xQ} {μ : xM} {x : Int32} (h : x_V S 29 16 (L.set 2 (some (.int x))) (st) μ n Q) : x_V S 29 15 L (.int x :: st) μ n Q := x_istore_n d29_15 (by decide) h
theorem s29_16 {S : Nat × (Nat → Int32)} {L : List (Option Value)} {st : List Value} {n : Nat} {Q : xQ} {μ : xM} {x : Int32} (hl : L[2]? = some (some (.int x))) (h : x_V S 29 17 L (.int x :: st) μ n Q) : x_V S 29 16 L (st) μ n Q := x_iload_n d29_16 hl h
theorem s29_17 {S : Nat × (Nat → Int32)} {L : List (Option Value)} {st : List Value} {n : Nat} {Q : xQ} {μ : xM} {x0 : Int32} (hst : st.length ≤ 4) (h : x_V S 1 0 [some (.int x0)] [] μ n (x_bk S 29 17 L st Q)) : x_V S 29 17 L (.int x0 :: st) μ n Q := x_callS (k' := 1) (as := [.int x0]) (na := 1) d29_17 ⟨w296, by decide +kernel, by decide, by decide, by decide, by decide, by decide⟩ w516 w295 w11 (by decide +kernel) rfl (fun v hv => by
    simp only [List.mem_cons, List.not_mem_nil, or_false] at hv
    rcases hv with rfl <;> first | rfl | assumption) hst h
theorem s29_20 {S : Nat × (Nat → Int32)} {L : List (Option Value)} {st : List Value} {n : Nat} {Q : xQ} {μ : xM} {x : Int} (hx : ib x) (kt : x = 0 → x_V S 29 32 L (st) μ n Q) (kf : x ≠ 0 → x_V S 29 23 L (st) μ n Q) : x_V S 29 20 L (.int (I x) :: st) μ n Q := v_if_eq d29_20 (by decide) hx kt kf
theorem s29_23 {S : Nat × (Nat → Int32)} {L : List (Option Value)} {st : List Value} {n : Nat} {Q : xQ} {μ : xM} {a : Nat} (hl : L[0]? = some (some (.ref a))) (h : x_V S 29 24 L (.ref a :: st) μ n Q) : x_V S 29 23 L (st) μ n Q := x_aload_n d29_23 hl h
theorem s29_23N {S : Nat × (Nat → Int32)} {L : List (Option Value)} {st : List Value} {n : Nat} {Q : xQ} {μ : xM} (hl : L[0]? = some (some .null)) (h : x_V S 29 24 L (.null :: st) μ n Q) : x_V S 29 23 L st μ n Q := x_aload_nN d29_23 hl h
theorem s29_24 {S : Nat × (Nat → Int32)} {L : List (Option Value)} {st : List Value} {n : Nat} {Q : xQ} {μ : xM}  (h : x_V S 29 26 L (.int (I 34) :: st) μ n Q) : x_V S 29 24 L (st) μ n Q := x_bipush (by decide +kernel) d29_24 h
theorem s29_26 {S : Nat × (Nat → Int32)} {L : List (Option Value)} {st : List Value} {n : Nat} {Q : xQ} {μ : xM} {x0 : Int32} {a : Nat} (hs : x_sh a = (1, 2)) (hst : st.length ≤ 4) (h : x_V S 32 0 [some (.ref a), some (.int x0), none, none] [] μ n (x_bk S 29 26 L st Q)) : x_V S 29 26 L (.int x0 :: .ref a :: st) μ n Q := x_callV (k' := 32) (as := [.int x0]) (na := 1) d29_26 ⟨w498, by decide +kernel, by decide, by decide, by decide, by decide, by decide⟩ cf1 w495 w497 wp6 (by decide +kernel) rfl hs (fun v hv => by
    simp only [List.mem_cons, List.not_mem_nil, or_false] at hv
    rcases hv with rfl <;> first | rfl | assumption) hst h
theorem s29_29 {S : Nat × (Nat → Int32)} {L : List (Option Value)} {st : List Value} {n : Nat} {Q : xQ} {μ : xM} {x : Int} (hx : ib x) (kt : x ≠ 0 → x_V S 29 34 L (st) μ n Q) (kf : x = 0 → x_V S 29 32 L (st) μ n Q) : x_V S 29 29 L (.int (I x) :: st) μ n Q := v_if_ne d29_29 (by decide) hx kt kf
theorem s29_32 {S : Nat × (Nat → Int32)} {L : List (Option Value)} {st : List Value} {n : Nat} {Q : xQ} {μ : xM}  (h : x_V S 29 33 L (.int (I 0) :: st) μ n Q) : x_V S 29 32 L (st) μ n Q := x_iconst (by decide +kernel) d29_32 h
theorem s29_33 {S : Nat × (Nat → Int32)} {L : List (Option Value)} {st : List Value} {n : Nat} {Q : xQ} {μ : xM} {v : Int} (hv : v = 0 ∨ v = 1) (h : Q (.inl (some (.int (I v)))) μ n) : x_V S 29 33 L (.int (I v) :: []) μ n Q := v_zreturn d29_33 rfl hv h
theorem s29_34 {S : Nat × (Nat → Int32)} {L : List (Option Value)} {st : List Value} {n : Nat} {Q : xQ} {μ : xM} {a : Nat} (hl : L[0]? = some (some (.ref a))) (h : x_V S 29 35 L (.ref a :: st) μ n Q) : x_V S 29 34 L (st) μ n Q := x_aload_n d29_34 hl h
theorem s29_34N {S : Nat × (Nat → Int32)} {L : List (Option Value)} {st : List Value} {n : Nat} {Q : xQ} {μ : xM} (hl : L[0]? = some (some .null)) (h : x_V S 29 35 L (.null :: st) μ n Q) : x_V S 29 34 L st μ n Q := x_aload_nN d29_34 hl h
theorem s29_35 {S : Nat × (Nat → Int32)} {L : List (Option Value)} {st : List Value} {n : Nat} {Q : xQ} {μ : xM}  {a : Nat} (hs : x_sh a = (1, 2)) (hst : st.length ≤ 4) (h : x_V S 33 0 [some (.ref a), none, none] [] μ n (x_bk S 29 35 L st Q)) : x_V S 29 35 L (.ref a :: st) μ n Q := x_callV (k' := 33) (as := []) (na := 0) d29_35 ⟨w511, by decide +kernel, by decide, by decide, by decide, by decide, by decide⟩ cf1 w508 w510 wp9 (by decide +kernel) rfl hs (fun v hv => by
    cases hv) hst h
theorem s29_38 {S : Nat × (Nat → Int32)} {L : List (Option Value)} {st : List Value} {n : Nat} {Q : xQ} {μ : xM} {x : Int32} (h : x_V S 29 39 (L.set 3 (some (.int x))) (st) μ n Q) : x_V S 29 38 L (.int x :: st) μ n Q := x_istore_n d29_38 (by decide) h
theorem s29_39 {S : Nat × (Nat → Int32)} {L : List (Option Value)} {st : List Value} {n : Nat} {Q : xQ} {μ : xM} {a : Nat} (hl : L[0]? = some (some (.ref a))) (h : x_V S 29 40 L (.ref a :: st) μ n Q) : x_V S 29 39 L (st) μ n Q := x_aload_n d29_39 hl h
theorem s29_39N {S : Nat × (Nat → Int32)} {L : List (Option Value)} {st : List Value} {n : Nat} {Q : xQ} {μ : xM} (hl : L[0]? = some (some .null)) (h : x_V S 29 40 L (.null :: st) μ n Q) : x_V S 29 39 L st μ n Q := x_aload_nN d29_39 hl h
theorem s29_40 {S : Nat × (Nat → Int32)} {L : List (Option Value)} {st : List Value} {n : Nat} {Q : xQ} {μ : xM}  (h : x_V S 29 42 L (.int (I 43) :: st) μ n Q) : x_V S 29 40 L (st) μ n Q := x_bipush (by decide +kernel) d29_40 h
theorem s29_42 {S : Nat × (Nat → Int32)} {L : List (Option Value)} {st : List Value} {n : Nat} {Q : xQ} {μ : xM} {x0 : Int32} {a : Nat} (hs : x_sh a = (1, 2)) (hst : st.length ≤ 4) (h : x_V S 32 0 [some (.ref a), some (.int x0), none, none] [] μ n (x_bk S 29 42 L st Q)) : x_V S 29 42 L (.int x0 :: .ref a :: st) μ n Q := x_callV (k' := 32) (as := [.int x0]) (na := 1) d29_42 ⟨w498, by decide +kernel, by decide, by decide, by decide, by decide, by decide⟩ cf1 w495 w497 wp6 (by decide +kernel) rfl hs (fun v hv => by
    simp only [List.mem_cons, List.not_mem_nil, or_false] at hv
    rcases hv with rfl <;> first | rfl | assumption) hst h
theorem s29_45 {S : Nat × (Nat → Int32)} {L : List (Option Value)} {st : List Value} {n : Nat} {Q : xQ} {μ : xM} {x : Int32} (h : x_V S 29 47 (L.set 4 (some (.int x))) (st) μ n Q) : x_V S 29 45 L (.int x :: st) μ n Q := x_istore d29_45 (by decide) h
theorem s29_47 {S : Nat × (Nat → Int32)} {L : List (Option Value)} {st : List Value} {n : Nat} {Q : xQ} {μ : xM} {a : Nat} (hl : L[1]? = some (some (.ref a))) (h : x_V S 29 48 L (.ref a :: st) μ n Q) : x_V S 29 47 L (st) μ n Q := x_aload_n d29_47 hl h
theorem s29_47N {S : Nat × (Nat → Int32)} {L : List (Option Value)} {st : List Value} {n : Nat} {Q : xQ} {μ : xM} (hl : L[1]? = some (some .null)) (h : x_V S 29 48 L (.null :: st) μ n Q) : x_V S 29 47 L st μ n Q := x_aload_nN d29_47 hl h
theorem s29_48 {S : Nat × (Nat → Int32)} {L : List (Option Value)} {st : List Value} {n : Nat} {Q : xQ} {μ : xM} {x : Int32} (hl : L[2]? = some (some (.int x))) (h : x_V S 29 49 L (.int x :: st) μ n Q) : x_V S 29 48 L (st) μ n Q := x_iload_n d29_48 hl h
theorem s29_49 {S : Nat × (Nat → Int32)} {L : List (Option Value)} {st : List Value} {n : Nat} {Q : xQ} {μ : xM} {x : Int32} (hl : L[3]? = some (some (.int x))) (h : x_V S 29 50 L (.int x :: st) μ n Q) : x_V S 29 49 L (st) μ n Q := x_iload_n d29_49 hl h
theorem s29_50 {S : Nat × (Nat → Int32)} {L : List (Option Value)} {st : List Value} {n : Nat} {Q : xQ} {μ : xM} {x : Int32} (hl : L[4]? = some (some (.int x))) (h : x_V S 29 52 L (.int x :: st) μ n Q) : x_V S 29 50 L (st) μ n Q := x_iload d29_50 hl h
theorem s29_52 {S : Nat × (Nat → Int32)} {L : List (Option Value)} {st : List Value} {n : Nat} {Q : xQ} {μ : xM} {x0 : Int32} {x1 : Int32} {x2 : Int32} {a : Nat} (hs : x_sh a = (3, 4)) (hst : st.length ≤ 4) (h : x_V S 22 0 [some (.ref a), some (.int x0), some (.int x1), some (.int x2)] [] μ n (x_bk S 29 52 L st Q)) : x_V S 29 52 L (.int x2 :: .int x1 :: .int x0 :: .ref a :: st) μ n Q := x_callV (k' := 22) (as := [.int x0, .int x1, .int x2]) (na := 3) d29_52 ⟨w264, by decide +kernel, by decide, by decide, by decide, by decide, by decide⟩ cf3 w517 w262 w263 (by decide +kernel) rfl hs (fun v hv => by
    simp only [List.mem_cons, List.not_mem_nil, or_false] at hv
    rcases hv with rfl | rfl | rfl <;> first | rfl | assumption) hst h
theorem s29_55 {S : Nat × (Nat → Int32)} {L : List (Option Value)} {st : List Value} {n : Nat} {Q : xQ} {μ : xM} {x : Int32} (hl : L[3]? = some (some (.int x))) (h : x_V S 29 56 L (.int x :: st) μ n Q) : x_V S 29 55 L (st) μ n Q := x_iload_n d29_55 hl h
theorem s29_56 {S : Nat × (Nat → Int32)} {L : List (Option Value)} {st : List Value} {n : Nat} {Q : xQ} {μ : xM}  (h : x_V S 29 57 L (.int (I (-1)) :: st) μ n Q) : x_V S 29 56 L (st) μ n Q := x_iconst (by decide +kernel) d29_56 h
theorem s29_57 {S : Nat × (Nat → Int32)} {L : List (Option Value)} {st : List Value} {n : Nat} {Q : xQ} {μ : xM} {x y : Int} (hx : ib x) (hy : ib y) (kt : x = y → x_V S 29 78 L (st) μ n Q) (kf : x ≠ y → x_V S 29 60 L (st) μ n Q) : x_V S 29 57 L (.int (I y) :: .int (I x) :: st) μ n Q := v_icmp_eq d29_57 (by decide) hx hy kt kf
theorem s29_60 {S : Nat × (Nat → Int32)} {L : List (Option Value)} {st : List Value} {n : Nat} {Q : xQ} {μ : xM} {x : Int32} (hl : L[4]? = some (some (.int x))) (h : x_V S 29 62 L (.int x :: st) μ n Q) : x_V S 29 60 L (st) μ n Q := x_iload d29_60 hl h
theorem s29_62 {S : Nat × (Nat → Int32)} {L : List (Option Value)} {st : List Value} {n : Nat} {Q : xQ} {μ : xM} {x : Int} (hx : ib x) (kt : x = 0 → x_V S 29 74 L (st) μ n Q) (kf : x ≠ 0 → x_V S 29 65 L (st) μ n Q) : x_V S 29 62 L (.int (I x) :: st) μ n Q := v_if_eq d29_62 (by decide) hx kt kf
theorem s29_65 {S : Nat × (Nat → Int32)} {L : List (Option Value)} {st : List Value} {n : Nat} {Q : xQ} {μ : xM} {a : Nat} (hl : L[0]? = some (some (.ref a))) (h : x_V S 29 66 L (.ref a :: st) μ n Q) : x_V S 29 65 L (st) μ n Q := x_aload_n d29_65 hl h
theorem s29_65N {S : Nat × (Nat → Int32)} {L : List (Option Value)} {st : List Value} {n : Nat} {Q : xQ} {μ : xM} (hl : L[0]? = some (some .null)) (h : x_V S 29 66 L (.null :: st) μ n Q) : x_V S 29 65 L st μ n Q := x_aload_nN d29_65 hl h
theorem s29_66 {S : Nat × (Nat → Int32)} {L : List (Option Value)} {st : List Value} {n : Nat} {Q : xQ} {μ : xM}  {a : Nat} (hs : x_sh a = (1, 2)) (hst : st.length ≤ 4) (h : x_V S 34 0 [some (.ref a), none] [] μ n (x_bk S 29 66 L st Q)) : x_V S 29 66 L (.ref a :: st) μ n Q := x_callV (k' := 34) (as := []) (na := 0) d29_66 ⟨w503, by decide +kernel, by decide, by decide, by decide, by decide, by decide⟩ cf1 w500 w502 wp7 (by decide +kernel) rfl hs (fun v hv => by
    cases hv) hst h
theorem s29_69 {S : Nat × (Nat → Int32)} {L : List (Option Value)} {st : List Value} {n : Nat} {Q : xQ} {μ : xM}  (h : x_V S 29 71 L (.int (I 89) :: st) μ n Q) : x_V S 29 69 L (st) μ n Q := x_bipush (by decide +kernel) d29_69 h
theorem s29_71 {S : Nat × (Nat → Int32)} {L : List (Option Value)} {st : List Value} {n : Nat} {Q : xQ} {μ : xM} {x y : Int} (hx : ib x) (hy : ib y) (kt : x ≠ y → x_V S 29 78 L (st) μ n Q) (kf : x = y → x_V S 29 74 L (st) μ n Q) : x_V S 29 71 L (.int (I y) :: .int (I x) :: st) μ n Q := v_icmp_ne d29_71 (by decide) hx hy kt kf
theorem s29_74 {S : Nat × (Nat → Int32)} {L : List (Option Value)} {st : List Value} {n : Nat} {Q : xQ} {μ : xM}  (h : x_V S 29 75 L (.int (I 1) :: st) μ n Q) : x_V S 29 74 L (st) μ n Q := x_iconst (by decide +kernel) d29_74 h
theorem s29_75 {S : Nat × (Nat → Int32)} {L : List (Option Value)} {st : List Value} {n : Nat} {Q : xQ} {μ : xM}  (h : x_V S 29 79 L (st) μ n Q) : x_V S 29 75 L (st) μ n Q := x_goto (tgt := 79) (by decide) d29_75 h
theorem s29_78 {S : Nat × (Nat → Int32)} {L : List (Option Value)} {st : List Value} {n : Nat} {Q : xQ} {μ : xM}  (h : x_V S 29 79 L (.int (I 0) :: st) μ n Q) : x_V S 29 78 L (st) μ n Q := x_iconst (by decide +kernel) d29_78 h
theorem s29_79 {S : Nat × (Nat → Int32)} {L : List (Option Value)} {st : List Value} {n : Nat} {Q : xQ} {μ : xM} {v : Int} (hv : v = 0 ∨ v = 1) (h : Q (.inl (some (.int (I v)))) μ n) : x_V S 29 79 L (.int (I v) :: []) μ n Q := v_zreturn d29_79 rfl hv h
theorem mC_30 : mC 30 = prog_3_method_4_code := rfl
theorem d30_0 : decode (mC 30) 0 = .ok (.aload_n 1, 1) := by rw [mC_30]; decide +kernel
theorem d30_1 : decode (mC 30) 1 = .ok (.getfield 55, 3) := by rw [mC_30]; decide +kernel
theorem d30_4 : decode (mC 30) 4 = .ok (.invokestatic 58, 3) := by rw [mC_30]; decide +kernel
theorem d30_7 : decode (mC 30) 7 = .ok (.istore_n 2, 1) := by rw [mC_30]; decide +kernel
theorem d30_8 : decode (mC 30) 8 = .ok (.iconst 0, 1) := by rw [mC_30]; decide +kernel
theorem d30_9 : decode (mC 30) 9 = .ok (.istore_n 3, 1) := by rw [mC_30]; decide +kernel
theorem d30_10 : decode (mC 30) 10 = .ok (.iload_n 3, 1) := by rw [mC_30]; decide +kernel
theorem d30_11 : decode (mC 30) 11 = .ok (.iload_n 2, 1) := by rw [mC_30]; decide +kernel
theorem d30_12 : decode (mC 30) 12 = .ok (.if_icmp .ge 95, 3) := by rw [mC_30]; decide +kernel
theorem d30_15 : decode (mC 30) 15 = .ok (.iload_n 3, 1) := by rw [mC_30]; decide +kernel
theorem d30_16 : decode (mC 30) 16 = .ok (.aload_n 1, 1) := by rw [mC_30]; decide +kernel
theorem d30_17 : decode (mC 30) 17 = .ok (.getfield 62, 3) := by rw [mC_30]; decide +kernel
theorem d30_20 : decode (mC 30) 20 = .ok (.arraylength, 1) := by rw [mC_30]; decide +kernel
theorem d30_21 : decode (mC 30) 21 = .ok (.if_icmp .ge 86, 3) := by rw [mC_30]; decide +kernel
theorem d30_24 : decode (mC 30) 24 = .ok (.aload_n 1, 1) := by rw [mC_30]; decide +kernel
theorem d30_25 : decode (mC 30) 25 = .ok (.getfield 55, 3) := by rw [mC_30]; decide +kernel
theorem d30_28 : decode (mC 30) 28 = .ok (.iload_n 3, 1) := by rw [mC_30]; decide +kernel
theorem d30_29 : decode (mC 30) 29 = .ok (.invokestatic 66, 3) := by rw [mC_30]; decide +kernel
theorem d30_32 : decode (mC 30) 32 = .ok (.istore 4, 2) := by rw [mC_30]; decide +kernel
theorem d30_34 : decode (mC 30) 34 = .ok (.aload_n 0, 1) := by rw [mC_30]; decide +kernel
theorem d30_35 : decode (mC 30) 35 = .ok (.iload 4, 2) := by rw [mC_30]; decide +kernel
theorem d30_37 : decode (mC 30) 37 = .ok (.invokevirtual 22, 3) := by rw [mC_30]; decide +kernel
theorem d30_40 : decode (mC 30) 40 = .ok (.ifCond .ne 25, 3) := by rw [mC_30]; decide +kernel
theorem d30_43 : decode (mC 30) 43 = .ok (.aload_n 1, 1) := by rw [mC_30]; decide +kernel
theorem d30_44 : decode (mC 30) 44 = .ok (.getfield 62, 3) := by rw [mC_30]; decide +kernel
theorem d30_47 : decode (mC 30) 47 = .ok (.iload_n 3, 1) := by rw [mC_30]; decide +kernel
theorem d30_48 : decode (mC 30) 48 = .ok (.iconst (-1), 1) := by rw [mC_30]; decide +kernel
theorem d30_49 : decode (mC 30) 49 = .ok (.iastore, 1) := by rw [mC_30]; decide +kernel
theorem d30_50 : decode (mC 30) 50 = .ok (.aload_n 1, 1) := by rw [mC_30]; decide +kernel
theorem d30_51 : decode (mC 30) 51 = .ok (.getfield 55, 3) := by rw [mC_30]; decide +kernel
theorem d30_54 : decode (mC 30) 54 = .ok (.bipush 48, 2) := by rw [mC_30]; decide +kernel
theorem d30_56 : decode (mC 30) 56 = .ok (.if_icmp .ne 7, 3) := by rw [mC_30]; decide +kernel
theorem d30_59 : decode (mC 30) 59 = .ok (.iconst 1, 1) := by rw [mC_30]; decide +kernel
theorem d30_60 : decode (mC 30) 60 = .ok (.goto 4, 3) := by rw [mC_30]; decide +kernel
theorem d30_63 : decode (mC 30) 63 = .ok (.iconst 0, 1) := by rw [mC_30]; decide +kernel
theorem d30_64 : decode (mC 30) 64 = .ok (.ireturn, 1) := by rw [mC_30]; decide +kernel
theorem d30_65 : decode (mC 30) 65 = .ok (.aload_n 1, 1) := by rw [mC_30]; decide +kernel
theorem d30_66 : decode (mC 30) 66 = .ok (.getfield 62, 3) := by rw [mC_30]; decide +kernel
theorem d30_69 : decode (mC 30) 69 = .ok (.iload_n 3, 1) := by rw [mC_30]; decide +kernel
theorem d30_70 : decode (mC 30) 70 = .ok (.iload 4, 2) := by rw [mC_30]; decide +kernel
theorem d30_72 : decode (mC 30) 72 = .ok (.bipush 123, 2) := by rw [mC_30]; decide +kernel
theorem d30_74 : decode (mC 30) 74 = .ok (.if_icmp .ne 10, 3) := by rw [mC_30]; decide +kernel
theorem d30_77 : decode (mC 30) 77 = .ok (.aload_n 0, 1) := by rw [mC_30]; decide +kernel
theorem d30_78 : decode (mC 30) 78 = .ok (.invokevirtual 70, 3) := by rw [mC_30]; decide +kernel
theorem d30_81 : decode (mC 30) 81 = .ok (.goto 7, 3) := by rw [mC_30]; decide +kernel
theorem d30_84 : decode (mC 30) 84 = .ok (.aload_n 0, 1) := by rw [mC_30]; decide +kernel
theorem d30_85 : decode (mC 30) 85 = .ok (.invokevirtual 30, 3) := by rw [mC_30]; decide +kernel
theorem d30_88 : decode (mC 30) 88 = .ok (.iastore, 1) := by rw [mC_30]; decide +kernel
theorem d30_89 : decode (mC 30) 89 = .ok (.aload_n 1, 1) := by rw [mC_30]; decide +kernel
theorem d30_90 : decode (mC 30) 90 = .ok (.getfield 62, 3) := by rw [mC_30]; decide +kernel
theorem d30_93 : decode (mC 30) 93 = .ok (.iload_n 3, 1) := by rw [mC_30]; decide +kernel
theorem d30_94 : decode (mC 30) 94 = .ok (.iaload, 1) := by rw [mC_30]; decide +kernel
theorem d30_95 : decode (mC 30) 95 = .ok (.iconst (-1), 1) := by rw [mC_30]; decide +kernel
theorem d30_96 : decode (mC 30) 96 = .ok (.if_icmp .ne 5, 3) := by rw [mC_30]; decide +kernel
theorem d30_99 : decode (mC 30) 99 = .ok (.iconst 0, 1) := by rw [mC_30]; decide +kernel
theorem d30_100 : decode (mC 30) 100 = .ok (.ireturn, 1) := by rw [mC_30]; decide +kernel
theorem d30_101 : decode (mC 30) 101 = .ok (.iinc 3 1, 3) := by rw [mC_30]; decide +kernel
theorem d30_104 : decode (mC 30) 104 = .ok (.goto (-94), 3) := by rw [mC_30]; decide +kernel
theorem d30_107 : decode (mC 30) 107 = .ok (.iconst 1, 1) := by rw [mC_30]; decide +kernel
theorem d30_108 : decode (mC 30) 108 = .ok (.ireturn, 1) := by rw [mC_30]; decide +kernel
theorem s30_0 {S : Nat × (Nat → Int32)} {L : List (Option Value)} {st : List Value} {n : Nat} {Q : xQ} {μ : xM} {a : Nat} (hl : L[1]? = some (some (.ref a))) (h : x_V S 30 1 L (.ref a :: st) μ n Q) : x_V S 30 0 L (st) μ n Q := x_aload_n d30_0 hl h
theorem s30_0N {S : Nat × (Nat → Int32)} {L : List (Option Value)} {st : List Value} {n : Nat} {Q : xQ} {μ : xM} (hl : L[1]? = some (some .null)) (h : x_V S 30 1 L (.null :: st) μ n Q) : x_V S 30 0 L st μ n Q := x_aload_nN d30_0 hl h
theorem s30_1 {S : Nat × (Nat → Int32)} {L : List (Option Value)} {st : List Value} {n : Nat} {Q : xQ} {g : Nat → Nat → Int} {a : Nat} (hs : x_sh a = (3, 4)) (hp : x_pt a 0 = none) (ha : a ≠ x_out) (h : x_V S 30 4 L (.int (I (g a 0)) :: st) (x_vm g) n Q) : x_V S 30 1 L (.ref a :: st) (x_vm g) n Q := v_get (i := 0) cf3 d30_1 (by decide) w67 hs hp ha h
theorem s30_4 {S : Nat × (Nat → Int32)} {L : List (Option Value)} {st : List Value} {n : Nat} {Q : xQ} {μ : xM} {x0 : Int32} (hst : st.length ≤ 4) (h : x_V S 2 0 [some (.int x0), none] [] μ n (x_bk S 30 4 L st Q)) : x_V S 30 4 L (.int x0 :: st) μ n Q := x_callS (k' := 2) (as := [.int x0]) (na := 1) d30_4 ⟨w403, by decide +kernel, by decide, by decide, by decide, by decide, by decide⟩ w522 w402 w11 (by decide +kernel) rfl (fun v hv => by
    simp only [List.mem_cons, List.not_mem_nil, or_false] at hv
    rcases hv with rfl <;> first | rfl | assumption) hst h
theorem s30_7 {S : Nat × (Nat → Int32)} {L : List (Option Value)} {st : List Value} {n : Nat} {Q : xQ} {μ : xM} {x : Int32} (h : x_V S 30 8 (L.set 2 (some (.int x))) (st) μ n Q) : x_V S 30 7 L (.int x :: st) μ n Q := x_istore_n d30_7 (by decide) h
theorem s30_8 {S : Nat × (Nat → Int32)} {L : List (Option Value)} {st : List Value} {n : Nat} {Q : xQ} {μ : xM}  (h : x_V S 30 9 L (.int (I 0) :: st) μ n Q) : x_V S 30 8 L (st) μ n Q := x_iconst (by decide +kernel) d30_8 h
theorem s30_9 {S : Nat × (Nat → Int32)} {L : List (Option Value)} {st : List Value} {n : Nat} {Q : xQ} {μ : xM} {x : Int32} (h : x_V S 30 10 (L.set 3 (some (.int x))) (st) μ n Q) : x_V S 30 9 L (.int x :: st) μ n Q := x_istore_n d30_9 (by decide) h
theorem s30_10 {S : Nat × (Nat → Int32)} {L : List (Option Value)} {st : List Value} {n : Nat} {Q : xQ} {μ : xM} {x : Int32} (hl : L[3]? = some (some (.int x))) (h : x_V S 30 11 L (.int x :: st) μ n Q) : x_V S 30 10 L (st) μ n Q := x_iload_n d30_10 hl h
theorem s30_11 {S : Nat × (Nat → Int32)} {L : List (Option Value)} {st : List Value} {n : Nat} {Q : xQ} {μ : xM} {x : Int32} (hl : L[2]? = some (some (.int x))) (h : x_V S 30 12 L (.int x :: st) μ n Q) : x_V S 30 11 L (st) μ n Q := x_iload_n d30_11 hl h
theorem s30_12 {S : Nat × (Nat → Int32)} {L : List (Option Value)} {st : List Value} {n : Nat} {Q : xQ} {μ : xM} {x y : Int} (hx : ib x) (hy : ib y) (kt : y ≤ x → x_V S 30 107 L (st) μ n Q) (kf : x < y → x_V S 30 15 L (st) μ n Q) : x_V S 30 12 L (.int (I y) :: .int (I x) :: st) μ n Q := v_icmp_ge d30_12 (by decide) hx hy kt kf
theorem s30_15 {S : Nat × (Nat → Int32)} {L : List (Option Value)} {st : List Value} {n : Nat} {Q : xQ} {μ : xM} {x : Int32} (hl : L[3]? = some (some (.int x))) (h : x_V S 30 16 L (.int x :: st) μ n Q) : x_V S 30 15 L (st) μ n Q := x_iload_n d30_15 hl h
theorem s30_16 {S : Nat × (Nat → Int32)} {L : List (Option Value)} {st : List Value} {n : Nat} {Q : xQ} {μ : xM} {a : Nat} (hl : L[1]? = some (some (.ref a))) (h : x_V S 30 17 L (.ref a :: st) μ n Q) : x_V S 30 16 L (st) μ n Q := x_aload_n d30_16 hl h
theorem s30_16N {S : Nat × (Nat → Int32)} {L : List (Option Value)} {st : List Value} {n : Nat} {Q : xQ} {μ : xM} (hl : L[1]? = some (some .null)) (h : x_V S 30 17 L (.null :: st) μ n Q) : x_V S 30 16 L st μ n Q := x_aload_nN d30_16 hl h
theorem s30_17 {S : Nat × (Nat → Int32)} {L : List (Option Value)} {st : List Value} {n : Nat} {Q : xQ} {g : Nat → Nat → Int} {a : Nat} {v : Value} (hs : x_sh a = (3, 4)) (hp : x_pt a 3 = some v) (h : x_V S 30 20 L (v :: st) (x_vm g) n Q) : x_V S 30 17 L (.ref a :: st) (x_vm g) n Q := v_getp (i := 3) cf3 d30_17 (by decide) w76 hs hp h
theorem s30_21 {S : Nat × (Nat → Int32)} {L : List (Option Value)} {st : List Value} {n : Nat} {Q : xQ} {μ : xM} {x y : Int} (hx : ib x) (hy : ib y) (kt : y ≤ x → x_V S 30 107 L (st) μ n Q) (kf : x < y → x_V S 30 24 L (st) μ n Q) : x_V S 30 21 L (.int (I y) :: .int (I x) :: st) μ n Q := v_icmp_ge d30_21 (by decide) hx hy kt kf
theorem s30_24 {S : Nat × (Nat → Int32)} {L : List (Option Value)} {st : List Value} {n : Nat} {Q : xQ} {μ : xM} {a : Nat} (hl : L[1]? = some (some (.ref a))) (h : x_V S 30 25 L (.ref a :: st) μ n Q) : x_V S 30 24 L (st) μ n Q := x_aload_n d30_24 hl h
theorem s30_24N {S : Nat × (Nat → Int32)} {L : List (Option Value)} {st : List Value} {n : Nat} {Q : xQ} {μ : xM} (hl : L[1]? = some (some .null)) (h : x_V S 30 25 L (.null :: st) μ n Q) : x_V S 30 24 L st μ n Q := x_aload_nN d30_24 hl h
theorem s30_25 {S : Nat × (Nat → Int32)} {L : List (Option Value)} {st : List Value} {n : Nat} {Q : xQ} {g : Nat → Nat → Int} {a : Nat} (hs : x_sh a = (3, 4)) (hp : x_pt a 0 = none) (ha : a ≠ x_out) (h : x_V S 30 28 L (.int (I (g a 0)) :: st) (x_vm g) n Q) : x_V S 30 25 L (.ref a :: st) (x_vm g) n Q := v_get (i := 0) cf3 d30_25 (by decide) w67 hs hp ha h
theorem s30_28 {S : Nat × (Nat → Int32)} {L : List (Option Value)} {st : List Value} {n : Nat} {Q : xQ} {μ : xM} {x : Int32} (hl : L[3]? = some (some (.int x))) (h : x_V S 30 29 L (.int x :: st) μ n Q) : x_V S 30 28 L (st) μ n Q := x_iload_n d30_28 hl h
theorem s30_29 {S : Nat × (Nat → Int32)} {L : List (Option Value)} {st : List Value} {n : Nat} {Q : xQ} {μ : xM} {x0 : Int32} {x1 : Int32} (hst : st.length ≤ 4) (h : x_V S 3 0 [some (.int x0), some (.int x1), none] [] μ n (x_bk S 30 29 L st Q)) : x_V S 30 29 L (.int x1 :: .int x0 :: st) μ n Q := x_callS (k' := 3) (as := [.int x0, .int x1]) (na := 2) d30_29 ⟨w406, by decide +kernel, by decide, by decide, by decide, by decide, by decide⟩ w523 w405 w11 (by decide +kernel) rfl (fun v hv => by
    simp only [List.mem_cons, List.not_mem_nil, or_false] at hv
    rcases hv with rfl | rfl <;> first | rfl | assumption) hst h
theorem s30_32 {S : Nat × (Nat → Int32)} {L : List (Option Value)} {st : List Value} {n : Nat} {Q : xQ} {μ : xM} {x : Int32} (h : x_V S 30 34 (L.set 4 (some (.int x))) (st) μ n Q) : x_V S 30 32 L (.int x :: st) μ n Q := x_istore d30_32 (by decide) h
theorem s30_34 {S : Nat × (Nat → Int32)} {L : List (Option Value)} {st : List Value} {n : Nat} {Q : xQ} {μ : xM} {a : Nat} (hl : L[0]? = some (some (.ref a))) (h : x_V S 30 35 L (.ref a :: st) μ n Q) : x_V S 30 34 L (st) μ n Q := x_aload_n d30_34 hl h
theorem s30_34N {S : Nat × (Nat → Int32)} {L : List (Option Value)} {st : List Value} {n : Nat} {Q : xQ} {μ : xM} (hl : L[0]? = some (some .null)) (h : x_V S 30 35 L (.null :: st) μ n Q) : x_V S 30 34 L st μ n Q := x_aload_nN d30_34 hl h
theorem s30_35 {S : Nat × (Nat → Int32)} {L : List (Option Value)} {st : List Value} {n : Nat} {Q : xQ} {μ : xM} {x : Int32} (hl : L[4]? = some (some (.int x))) (h : x_V S 30 37 L (.int x :: st) μ n Q) : x_V S 30 35 L (st) μ n Q := x_iload d30_35 hl h
theorem s30_37 {S : Nat × (Nat → Int32)} {L : List (Option Value)} {st : List Value} {n : Nat} {Q : xQ} {μ : xM} {x0 : Int32} {a : Nat} (hs : x_sh a = (1, 2)) (hst : st.length ≤ 4) (h : x_V S 32 0 [some (.ref a), some (.int x0), none, none] [] μ n (x_bk S 30 37 L st Q)) : x_V S 30 37 L (.int x0 :: .ref a :: st) μ n Q := x_callV (k' := 32) (as := [.int x0]) (na := 1) d30_37 ⟨w498, by decide +kernel, by decide, by decide, by decide, by decide, by decide⟩ cf1 w495 w497 wp6 (by decide +kernel) rfl hs (fun v hv => by
    simp only [List.mem_cons, List.not_mem_nil, or_false] at hv
    rcases hv with rfl <;> first | rfl | assumption) hst h
theorem s30_40 {S : Nat × (Nat → Int32)} {L : List (Option Value)} {st : List Value} {n : Nat} {Q : xQ} {μ : xM} {x : Int} (hx : ib x) (kt : x ≠ 0 → x_V S 30 65 L (st) μ n Q) (kf : x = 0 → x_V S 30 43 L (st) μ n Q) : x_V S 30 40 L (.int (I x) :: st) μ n Q := v_if_ne d30_40 (by decide) hx kt kf
theorem s30_43 {S : Nat × (Nat → Int32)} {L : List (Option Value)} {st : List Value} {n : Nat} {Q : xQ} {μ : xM} {a : Nat} (hl : L[1]? = some (some (.ref a))) (h : x_V S 30 44 L (.ref a :: st) μ n Q) : x_V S 30 43 L (st) μ n Q := x_aload_n d30_43 hl h
theorem s30_43N {S : Nat × (Nat → Int32)} {L : List (Option Value)} {st : List Value} {n : Nat} {Q : xQ} {μ : xM} (hl : L[1]? = some (some .null)) (h : x_V S 30 44 L (.null :: st) μ n Q) : x_V S 30 43 L st μ n Q := x_aload_nN d30_43 hl h
theorem s30_44 {S : Nat × (Nat → Int32)} {L : List (Option Value)} {st : List Value} {n : Nat} {Q : xQ} {g : Nat → Nat → Int} {a : Nat} {v : Value} (hs : x_sh a = (3, 4)) (hp : x_pt a 3 = some v) (h : x_V S 30 47 L (v :: st) (x_vm g) n Q) : x_V S 30 44 L (.ref a :: st) (x_vm g) n Q := v_getp (i := 3) cf3 d30_44 (by decide) w76 hs hp h
theorem s30_47 {S : Nat × (Nat → Int32)} {L : List (Option Value)} {st : List Value} {n : Nat} {Q : xQ} {μ : xM} {x : Int32} (hl : L[3]? = some (some (.int x))) (h : x_V S 30 48 L (.int x :: st) μ n Q) : x_V S 30 47 L (st) μ n Q := x_iload_n d30_47 hl h
theorem s30_48 {S : Nat × (Nat → Int32)} {L : List (Option Value)} {st : List Value} {n : Nat} {Q : xQ} {μ : xM}  (h : x_V S 30 49 L (.int (I (-1)) :: st) μ n Q) : x_V S 30 48 L (st) μ n Q := x_iconst (by decide +kernel) d30_48 h
theorem s30_50 {S : Nat × (Nat → Int32)} {L : List (Option Value)} {st : List Value} {n : Nat} {Q : xQ} {μ : xM} {a : Nat} (hl : L[1]? = some (some (.ref a))) (h : x_V S 30 51 L (.ref a :: st) μ n Q) : x_V S 30 50 L (st) μ n Q := x_aload_n d30_50 hl h
theorem s30_50N {S : Nat × (Nat → Int32)} {L : List (Option Value)} {st : List Value} {n : Nat} {Q : xQ} {μ : xM} (hl : L[1]? = some (some .null)) (h : x_V S 30 51 L (.null :: st) μ n Q) : x_V S 30 50 L st μ n Q := x_aload_nN d30_50 hl h
theorem s30_51 {S : Nat × (Nat → Int32)} {L : List (Option Value)} {st : List Value} {n : Nat} {Q : xQ} {g : Nat → Nat → Int} {a : Nat} (hs : x_sh a = (3, 4)) (hp : x_pt a 0 = none) (ha : a ≠ x_out) (h : x_V S 30 54 L (.int (I (g a 0)) :: st) (x_vm g) n Q) : x_V S 30 51 L (.ref a :: st) (x_vm g) n Q := v_get (i := 0) cf3 d30_51 (by decide) w67 hs hp ha h
theorem s30_54 {S : Nat × (Nat → Int32)} {L : List (Option Value)} {st : List Value} {n : Nat} {Q : xQ} {μ : xM}  (h : x_V S 30 56 L (.int (I 48) :: st) μ n Q) : x_V S 30 54 L (st) μ n Q := x_bipush (by decide +kernel) d30_54 h
theorem s30_56 {S : Nat × (Nat → Int32)} {L : List (Option Value)} {st : List Value} {n : Nat} {Q : xQ} {μ : xM} {x y : Int} (hx : ib x) (hy : ib y) (kt : x ≠ y → x_V S 30 63 L (st) μ n Q) (kf : x = y → x_V S 30 59 L (st) μ n Q) : x_V S 30 56 L (.int (I y) :: .int (I x) :: st) μ n Q := v_icmp_ne d30_56 (by decide) hx hy kt kf
theorem s30_59 {S : Nat × (Nat → Int32)} {L : List (Option Value)} {st : List Value} {n : Nat} {Q : xQ} {μ : xM}  (h : x_V S 30 60 L (.int (I 1) :: st) μ n Q) : x_V S 30 59 L (st) μ n Q := x_iconst (by decide +kernel) d30_59 h
theorem s30_60 {S : Nat × (Nat → Int32)} {L : List (Option Value)} {st : List Value} {n : Nat} {Q : xQ} {μ : xM}  (h : x_V S 30 64 L (st) μ n Q) : x_V S 30 60 L (st) μ n Q := x_goto (tgt := 64) (by decide) d30_60 h
theorem s30_63 {S : Nat × (Nat → Int32)} {L : List (Option Value)} {st : List Value} {n : Nat} {Q : xQ} {μ : xM}  (h : x_V S 30 64 L (.int (I 0) :: st) μ n Q) : x_V S 30 63 L (st) μ n Q := x_iconst (by decide +kernel) d30_63 h
theorem s30_64 {S : Nat × (Nat → Int32)} {L : List (Option Value)} {st : List Value} {n : Nat} {Q : xQ} {μ : xM} {v : Int} (hv : v = 0 ∨ v = 1) (h : Q (.inl (some (.int (I v)))) μ n) : x_V S 30 64 L (.int (I v) :: []) μ n Q := v_zreturn d30_64 rfl hv h
theorem s30_65 {S : Nat × (Nat → Int32)} {L : List (Option Value)} {st : List Value} {n : Nat} {Q : xQ} {μ : xM} {a : Nat} (hl : L[1]? = some (some (.ref a))) (h : x_V S 30 66 L (.ref a :: st) μ n Q) : x_V S 30 65 L (st) μ n Q := x_aload_n d30_65 hl h
theorem s30_65N {S : Nat × (Nat → Int32)} {L : List (Option Value)} {st : List Value} {n : Nat} {Q : xQ} {μ : xM} (hl : L[1]? = some (some .null)) (h : x_V S 30 66 L (.null :: st) μ n Q) : x_V S 30 65 L st μ n Q := x_aload_nN d30_65 hl h
theorem s30_66 {S : Nat × (Nat → Int32)} {L : List (Option Value)} {st : List Value} {n : Nat} {Q : xQ} {g : Nat → Nat → Int} {a : Nat} {v : Value} (hs : x_sh a = (3, 4)) (hp : x_pt a 3 = some v) (h : x_V S 30 69 L (v :: st) (x_vm g) n Q) : x_V S 30 66 L (.ref a :: st) (x_vm g) n Q := v_getp (i := 3) cf3 d30_66 (by decide) w76 hs hp h
theorem s30_69 {S : Nat × (Nat → Int32)} {L : List (Option Value)} {st : List Value} {n : Nat} {Q : xQ} {μ : xM} {x : Int32} (hl : L[3]? = some (some (.int x))) (h : x_V S 30 70 L (.int x :: st) μ n Q) : x_V S 30 69 L (st) μ n Q := x_iload_n d30_69 hl h
theorem s30_70 {S : Nat × (Nat → Int32)} {L : List (Option Value)} {st : List Value} {n : Nat} {Q : xQ} {μ : xM} {x : Int32} (hl : L[4]? = some (some (.int x))) (h : x_V S 30 72 L (.int x :: st) μ n Q) : x_V S 30 70 L (st) μ n Q := x_iload d30_70 hl h
theorem s30_72 {S : Nat × (Nat → Int32)} {L : List (Option Value)} {st : List Value} {n : Nat} {Q : xQ} {μ : xM}  (h : x_V S 30 74 L (.int (I 123) :: st) μ n Q) : x_V S 30 72 L (st) μ n Q := x_bipush (by decide +kernel) d30_72 h
theorem s30_74 {S : Nat × (Nat → Int32)} {L : List (Option Value)} {st : List Value} {n : Nat} {Q : xQ} {μ : xM} {x y : Int} (hx : ib x) (hy : ib y) (kt : x ≠ y → x_V S 30 84 L (st) μ n Q) (kf : x = y → x_V S 30 77 L (st) μ n Q) : x_V S 30 74 L (.int (I y) :: .int (I x) :: st) μ n Q := v_icmp_ne d30_74 (by decide) hx hy kt kf
theorem s30_77 {S : Nat × (Nat → Int32)} {L : List (Option Value)} {st : List Value} {n : Nat} {Q : xQ} {μ : xM} {a : Nat} (hl : L[0]? = some (some (.ref a))) (h : x_V S 30 78 L (.ref a :: st) μ n Q) : x_V S 30 77 L (st) μ n Q := x_aload_n d30_77 hl h
theorem s30_77N {S : Nat × (Nat → Int32)} {L : List (Option Value)} {st : List Value} {n : Nat} {Q : xQ} {μ : xM} (hl : L[0]? = some (some .null)) (h : x_V S 30 78 L (.null :: st) μ n Q) : x_V S 30 77 L st μ n Q := x_aload_nN d30_77 hl h
theorem s30_78 {S : Nat × (Nat → Int32)} {L : List (Option Value)} {st : List Value} {n : Nat} {Q : xQ} {μ : xM}  {a : Nat} (hs : x_sh a = (1, 2)) (hst : st.length ≤ 4) (h : x_V S 35 0 [some (.ref a), none] [] μ n (x_bk S 30 78 L st Q)) : x_V S 30 78 L (.ref a :: st) μ n Q := x_callV (k' := 35) (as := []) (na := 0) d30_78 ⟨w527, by decide +kernel, by decide, by decide, by decide, by decide, by decide⟩ cf1 w524 w526 wp12 (by decide +kernel) rfl hs (fun v hv => by
    cases hv) hst h
theorem s30_81 {S : Nat × (Nat → Int32)} {L : List (Option Value)} {st : List Value} {n : Nat} {Q : xQ} {μ : xM}  (h : x_V S 30 88 L (st) μ n Q) : x_V S 30 81 L (st) μ n Q := x_goto (tgt := 88) (by decide) d30_81 h
theorem s30_84 {S : Nat × (Nat → Int32)} {L : List (Option Value)} {st : List Value} {n : Nat} {Q : xQ} {μ : xM} {a : Nat} (hl : L[0]? = some (some (.ref a))) (h : x_V S 30 85 L (.ref a :: st) μ n Q) : x_V S 30 84 L (st) μ n Q := x_aload_n d30_84 hl h
theorem s30_84N {S : Nat × (Nat → Int32)} {L : List (Option Value)} {st : List Value} {n : Nat} {Q : xQ} {μ : xM} (hl : L[0]? = some (some .null)) (h : x_V S 30 85 L (.null :: st) μ n Q) : x_V S 30 84 L st μ n Q := x_aload_nN d30_84 hl h
theorem s30_85 {S : Nat × (Nat → Int32)} {L : List (Option Value)} {st : List Value} {n : Nat} {Q : xQ} {μ : xM}  {a : Nat} (hs : x_sh a = (1, 2)) (hst : st.length ≤ 4) (h : x_V S 33 0 [some (.ref a), none, none] [] μ n (x_bk S 30 85 L st Q)) : x_V S 30 85 L (.ref a :: st) μ n Q := x_callV (k' := 33) (as := []) (na := 0) d30_85 ⟨w511, by decide +kernel, by decide, by decide, by decide, by decide, by decide⟩ cf1 w508 w510 wp9 (by decide +kernel) rfl hs (fun v hv => by
    cases hv) hst h
theorem s30_89 {S : Nat × (Nat → Int32)} {L : List (Option Value)} {st : List Value} {n : Nat} {Q : xQ} {μ : xM} {a : Nat} (hl : L[1]? = some (some (.ref a))) (h : x_V S 30 90 L (.ref a :: st) μ n Q) : x_V S 30 89 L (st) μ n Q := x_aload_n d30_89 hl h
theorem s30_89N {S : Nat × (Nat → Int32)} {L : List (Option Value)} {st : List Value} {n : Nat} {Q : xQ} {μ : xM} (hl : L[1]? = some (some .null)) (h : x_V S 30 90 L (.null :: st) μ n Q) : x_V S 30 89 L st μ n Q := x_aload_nN d30_89 hl h
theorem s30_90 {S : Nat × (Nat → Int32)} {L : List (Option Value)} {st : List Value} {n : Nat} {Q : xQ} {g : Nat → Nat → Int} {a : Nat} {v : Value} (hs : x_sh a = (3, 4)) (hp : x_pt a 3 = some v) (h : x_V S 30 93 L (v :: st) (x_vm g) n Q) : x_V S 30 90 L (.ref a :: st) (x_vm g) n Q := v_getp (i := 3) cf3 d30_90 (by decide) w76 hs hp h
theorem s30_93 {S : Nat × (Nat → Int32)} {L : List (Option Value)} {st : List Value} {n : Nat} {Q : xQ} {μ : xM} {x : Int32} (hl : L[3]? = some (some (.int x))) (h : x_V S 30 94 L (.int x :: st) μ n Q) : x_V S 30 93 L (st) μ n Q := x_iload_n d30_93 hl h
theorem s30_95 {S : Nat × (Nat → Int32)} {L : List (Option Value)} {st : List Value} {n : Nat} {Q : xQ} {μ : xM}  (h : x_V S 30 96 L (.int (I (-1)) :: st) μ n Q) : x_V S 30 95 L (st) μ n Q := x_iconst (by decide +kernel) d30_95 h
theorem s30_96 {S : Nat × (Nat → Int32)} {L : List (Option Value)} {st : List Value} {n : Nat} {Q : xQ} {μ : xM} {x y : Int} (hx : ib x) (hy : ib y) (kt : x ≠ y → x_V S 30 101 L (st) μ n Q) (kf : x = y → x_V S 30 99 L (st) μ n Q) : x_V S 30 96 L (.int (I y) :: .int (I x) :: st) μ n Q := v_icmp_ne d30_96 (by decide) hx hy kt kf
theorem s30_99 {S : Nat × (Nat → Int32)} {L : List (Option Value)} {st : List Value} {n : Nat} {Q : xQ} {μ : xM}  (h : x_V S 30 100 L (.int (I 0) :: st) μ n Q) : x_V S 30 99 L (st) μ n Q := x_iconst (by decide +kernel) d30_99 h
theorem s30_100 {S : Nat × (Nat → Int32)} {L : List (Option Value)} {st : List Value} {n : Nat} {Q : xQ} {μ : xM} {v : Int} (hv : v = 0 ∨ v = 1) (h : Q (.inl (some (.int (I v)))) μ n) : x_V S 30 100 L (.int (I v) :: []) μ n Q := v_zreturn d30_100 rfl hv h
theorem s30_101 {S : Nat × (Nat → Int32)} {L : List (Option Value)} {st : List Value} {n : Nat} {Q : xQ} {μ : xM} {x : Int} (hl : L[3]? = some (some (.int (I x)))) (h : x_V S 30 104 (L.set 3 (some (.int (I (x + 1))))) (st) μ n Q) : x_V S 30 101 L (st) μ n Q := v_iinc d30_101 hl (by decide) h
theorem s30_104 {S : Nat × (Nat → Int32)} {L : List (Option Value)} {st : List Value} {n : Nat} {Q : xQ} {μ : xM}  (h : x_V S 30 10 L (st) μ n Q) : x_V S 30 104 L (st) μ n Q := x_goto (tgt := 10) (by decide) d30_104 h
theorem s30_107 {S : Nat × (Nat → Int32)} {L : List (Option Value)} {st : List Value} {n : Nat} {Q : xQ} {μ : xM}  (h : x_V S 30 108 L (.int (I 1) :: st) μ n Q) : x_V S 30 107 L (st) μ n Q := x_iconst (by decide +kernel) d30_107 h
theorem s30_108 {S : Nat × (Nat → Int32)} {L : List (Option Value)} {st : List Value} {n : Nat} {Q : xQ} {μ : xM} {v : Int} (hv : v = 0 ∨ v = 1) (h : Q (.inl (some (.int (I v)))) μ n) : x_V S 30 108 L (.int (I v) :: []) μ n Q := v_zreturn d30_108 rfl hv h
theorem mC_31 : mC 31 = prog_3_method_5_code := rfl
theorem d31_0 : decode (mC 31) 0 = .ok (.aload_n 0, 1) := by rw [mC_31]; decide +kernel
theorem d31_1 : decode (mC 31) 1 = .ok (.getfield 12, 3) := by rw [mC_31]; decide +kernel
theorem d31_4 : decode (mC 31) 4 = .ok (.aload_n 0, 1) := by rw [mC_31]; decide +kernel
theorem d31_5 : decode (mC 31) 5 = .ok (.getfield 18, 3) := by rw [mC_31]; decide +kernel
theorem d31_8 : decode (mC 31) 8 = .ok (.invokevirtual 73, 3) := by rw [mC_31]; decide +kernel
theorem d31_11 : decode (mC 31) 11 = .ok (.istore_n 1, 1) := by rw [mC_31]; decide +kernel
theorem d31_12 : decode (mC 31) 12 = .ok (.aload_n 0, 1) := by rw [mC_31]; decide +kernel
theorem d31_13 : decode (mC 31) 13 = .ok (.bipush 10, 2) := by rw [mC_31]; decide +kernel
theorem d31_15 : decode (mC 31) 15 = .ok (.invokevirtual 22, 3) := by rw [mC_31]; decide +kernel
theorem d31_18 : decode (mC 31) 18 = .ok (.ifCond .ne 5, 3) := by rw [mC_31]; decide +kernel
theorem d31_21 : decode (mC 31) 21 = .ok (.iconst 0, 1) := by rw [mC_31]; decide +kernel
theorem d31_22 : decode (mC 31) 22 = .ok (.ireturn, 1) := by rw [mC_31]; decide +kernel
theorem d31_23 : decode (mC 31) 23 = .ok (.aload_n 0, 1) := by rw [mC_31]; decide +kernel
theorem d31_24 : decode (mC 31) 24 = .ok (.getfield 18, 3) := by rw [mC_31]; decide +kernel
theorem d31_27 : decode (mC 31) 27 = .ok (.istore_n 2, 1) := by rw [mC_31]; decide +kernel
theorem d31_28 : decode (mC 31) 28 = .ok (.aload_n 0, 1) := by rw [mC_31]; decide +kernel
theorem d31_29 : decode (mC 31) 29 = .ok (.invokevirtual 30, 3) := by rw [mC_31]; decide +kernel
theorem d31_32 : decode (mC 31) 32 = .ok (.iload_n 1, 1) := by rw [mC_31]; decide +kernel
theorem d31_33 : decode (mC 31) 33 = .ok (.if_icmp .ne 31, 3) := by rw [mC_31]; decide +kernel
theorem d31_36 : decode (mC 31) 36 = .ok (.aload_n 0, 1) := by rw [mC_31]; decide +kernel
theorem d31_37 : decode (mC 31) 37 = .ok (.getfield 18, 3) := by rw [mC_31]; decide +kernel
theorem d31_40 : decode (mC 31) 40 = .ok (.iload_n 2, 1) := by rw [mC_31]; decide +kernel
theorem d31_41 : decode (mC 31) 41 = .ok (.isub, 1) := by rw [mC_31]; decide +kernel
theorem d31_42 : decode (mC 31) 42 = .ok (.iconst 4, 1) := by rw [mC_31]; decide +kernel
theorem d31_43 : decode (mC 31) 43 = .ok (.if_icmp .ne 21, 3) := by rw [mC_31]; decide +kernel
theorem d31_46 : decode (mC 31) 46 = .ok (.aload_n 0, 1) := by rw [mC_31]; decide +kernel
theorem d31_47 : decode (mC 31) 47 = .ok (.getfield 18, 3) := by rw [mC_31]; decide +kernel
theorem d31_50 : decode (mC 31) 50 = .ok (.aload_n 0, 1) := by rw [mC_31]; decide +kernel
theorem d31_51 : decode (mC 31) 51 = .ok (.getfield 12, 3) := by rw [mC_31]; decide +kernel
theorem d31_54 : decode (mC 31) 54 = .ok (.getfield 76, 3) := by rw [mC_31]; decide +kernel
theorem d31_57 : decode (mC 31) 57 = .ok (.if_icmp .ne 7, 3) := by rw [mC_31]; decide +kernel
theorem d31_60 : decode (mC 31) 60 = .ok (.iconst 1, 1) := by rw [mC_31]; decide +kernel
theorem d31_61 : decode (mC 31) 61 = .ok (.goto 4, 3) := by rw [mC_31]; decide +kernel
theorem d31_64 : decode (mC 31) 64 = .ok (.iconst 0, 1) := by rw [mC_31]; decide +kernel
theorem d31_65 : decode (mC 31) 65 = .ok (.ireturn, 1) := by rw [mC_31]; decide +kernel
theorem s31_0 {S : Nat × (Nat → Int32)} {L : List (Option Value)} {st : List Value} {n : Nat} {Q : xQ} {μ : xM} {a : Nat} (hl : L[0]? = some (some (.ref a))) (h : x_V S 31 1 L (.ref a :: st) μ n Q) : x_V S 31 0 L (st) μ n Q := x_aload_n d31_0 hl h
theorem s31_0N {S : Nat × (Nat → Int32)} {L : List (Option Value)} {st : List Value} {n : Nat} {Q : xQ} {μ : xM} (hl : L[0]? = some (some .null)) (h : x_V S 31 1 L (.null :: st) μ n Q) : x_V S 31 0 L st μ n Q := x_aload_nN d31_0 hl h
theorem s31_1 {S : Nat × (Nat → Int32)} {L : List (Option Value)} {st : List Value} {n : Nat} {Q : xQ} {g : Nat → Nat → Int} {a : Nat} {v : Value} (hs : x_sh a = (1, 2)) (hp : x_pt a 0 = some v) (h : x_V S 31 4 L (v :: st) (x_vm g) n Q) : x_V S 31 1 L (.ref a :: st) (x_vm g) n Q := v_getp (i := 0) cf1 d31_1 (by decide) w51 hs hp h
theorem s31_4 {S : Nat × (Nat → Int32)} {L : List (Option Value)} {st : List Value} {n : Nat} {Q : xQ} {μ : xM} {a : Nat} (hl : L[0]? = some (some (.ref a))) (h : x_V S 31 5 L (.ref a :: st) μ n Q) : x_V S 31 4 L (st) μ n Q := x_aload_n d31_4 hl h
theorem s31_4N {S : Nat × (Nat → Int32)} {L : List (Option Value)} {st : List Value} {n : Nat} {Q : xQ} {μ : xM} (hl : L[0]? = some (some .null)) (h : x_V S 31 5 L (.null :: st) μ n Q) : x_V S 31 4 L st μ n Q := x_aload_nN d31_4 hl h
theorem s31_5 {S : Nat × (Nat → Int32)} {L : List (Option Value)} {st : List Value} {n : Nat} {Q : xQ} {g : Nat → Nat → Int} {a : Nat} (hs : x_sh a = (1, 2)) (hp : x_pt a 1 = none) (ha : a ≠ x_out) (h : x_V S 31 8 L (.int (I (g a 1)) :: st) (x_vm g) n Q) : x_V S 31 5 L (.ref a :: st) (x_vm g) n Q := v_get (i := 1) cf1 d31_5 (by decide) w53 hs hp ha h
theorem s31_8 {S : Nat × (Nat → Int32)} {L : List (Option Value)} {st : List Value} {n : Nat} {Q : xQ} {μ : xM} {x0 : Int32} {a : Nat} (hs : x_sh a = (2, 2)) (hst : st.length ≤ 4) (h : x_V S 16 0 [some (.ref a), some (.int x0), none, none] [] μ n (x_bk S 31 8 L st Q)) : x_V S 31 8 L (.int x0 :: .ref a :: st) μ n Q := x_callV (k' := 16) (as := [.int x0]) (na := 1) d31_8 ⟨w426, by decide +kernel, by decide, by decide, by decide, by decide, by decide⟩ cf2 w532 w424 w425 (by decide +kernel) rfl hs (fun v hv => by
    simp only [List.mem_cons, List.not_mem_nil, or_false] at hv
    rcases hv with rfl <;> first | rfl | assumption) hst h
theorem s31_11 {S : Nat × (Nat → Int32)} {L : List (Option Value)} {st : List Value} {n : Nat} {Q : xQ} {μ : xM} {x : Int32} (h : x_V S 31 12 (L.set 1 (some (.int x))) (st) μ n Q) : x_V S 31 11 L (.int x :: st) μ n Q := x_istore_n d31_11 (by decide) h
theorem s31_12 {S : Nat × (Nat → Int32)} {L : List (Option Value)} {st : List Value} {n : Nat} {Q : xQ} {μ : xM} {a : Nat} (hl : L[0]? = some (some (.ref a))) (h : x_V S 31 13 L (.ref a :: st) μ n Q) : x_V S 31 12 L (st) μ n Q := x_aload_n d31_12 hl h
theorem s31_12N {S : Nat × (Nat → Int32)} {L : List (Option Value)} {st : List Value} {n : Nat} {Q : xQ} {μ : xM} (hl : L[0]? = some (some .null)) (h : x_V S 31 13 L (.null :: st) μ n Q) : x_V S 31 12 L st μ n Q := x_aload_nN d31_12 hl h
theorem s31_13 {S : Nat × (Nat → Int32)} {L : List (Option Value)} {st : List Value} {n : Nat} {Q : xQ} {μ : xM}  (h : x_V S 31 15 L (.int (I 10) :: st) μ n Q) : x_V S 31 13 L (st) μ n Q := x_bipush (by decide +kernel) d31_13 h
theorem s31_15 {S : Nat × (Nat → Int32)} {L : List (Option Value)} {st : List Value} {n : Nat} {Q : xQ} {μ : xM} {x0 : Int32} {a : Nat} (hs : x_sh a = (1, 2)) (hst : st.length ≤ 4) (h : x_V S 32 0 [some (.ref a), some (.int x0), none, none] [] μ n (x_bk S 31 15 L st Q)) : x_V S 31 15 L (.int x0 :: .ref a :: st) μ n Q := x_callV (k' := 32) (as := [.int x0]) (na := 1) d31_15 ⟨w498, by decide +kernel, by decide, by decide, by decide, by decide, by decide⟩ cf1 w495 w497 wp6 (by decide +kernel) rfl hs (fun v hv => by
    simp only [List.mem_cons, List.not_mem_nil, or_false] at hv
    rcases hv with rfl <;> first | rfl | assumption) hst h
theorem s31_18 {S : Nat × (Nat → Int32)} {L : List (Option Value)} {st : List Value} {n : Nat} {Q : xQ} {μ : xM} {x : Int} (hx : ib x) (kt : x ≠ 0 → x_V S 31 23 L (st) μ n Q) (kf : x = 0 → x_V S 31 21 L (st) μ n Q) : x_V S 31 18 L (.int (I x) :: st) μ n Q := v_if_ne d31_18 (by decide) hx kt kf
theorem s31_21 {S : Nat × (Nat → Int32)} {L : List (Option Value)} {st : List Value} {n : Nat} {Q : xQ} {μ : xM}  (h : x_V S 31 22 L (.int (I 0) :: st) μ n Q) : x_V S 31 21 L (st) μ n Q := x_iconst (by decide +kernel) d31_21 h
theorem s31_22 {S : Nat × (Nat → Int32)} {L : List (Option Value)} {st : List Value} {n : Nat} {Q : xQ} {μ : xM} {v : Int} (hv : v = 0 ∨ v = 1) (h : Q (.inl (some (.int (I v)))) μ n) : x_V S 31 22 L (.int (I v) :: []) μ n Q := v_zreturn d31_22 rfl hv h
theorem s31_23 {S : Nat × (Nat → Int32)} {L : List (Option Value)} {st : List Value} {n : Nat} {Q : xQ} {μ : xM} {a : Nat} (hl : L[0]? = some (some (.ref a))) (h : x_V S 31 24 L (.ref a :: st) μ n Q) : x_V S 31 23 L (st) μ n Q := x_aload_n d31_23 hl h
theorem s31_23N {S : Nat × (Nat → Int32)} {L : List (Option Value)} {st : List Value} {n : Nat} {Q : xQ} {μ : xM} (hl : L[0]? = some (some .null)) (h : x_V S 31 24 L (.null :: st) μ n Q) : x_V S 31 23 L st μ n Q := x_aload_nN d31_23 hl h
theorem s31_24 {S : Nat × (Nat → Int32)} {L : List (Option Value)} {st : List Value} {n : Nat} {Q : xQ} {g : Nat → Nat → Int} {a : Nat} (hs : x_sh a = (1, 2)) (hp : x_pt a 1 = none) (ha : a ≠ x_out) (h : x_V S 31 27 L (.int (I (g a 1)) :: st) (x_vm g) n Q) : x_V S 31 24 L (.ref a :: st) (x_vm g) n Q := v_get (i := 1) cf1 d31_24 (by decide) w53 hs hp ha h
theorem s31_27 {S : Nat × (Nat → Int32)} {L : List (Option Value)} {st : List Value} {n : Nat} {Q : xQ} {μ : xM} {x : Int32} (h : x_V S 31 28 (L.set 2 (some (.int x))) (st) μ n Q) : x_V S 31 27 L (.int x :: st) μ n Q := x_istore_n d31_27 (by decide) h
theorem s31_28 {S : Nat × (Nat → Int32)} {L : List (Option Value)} {st : List Value} {n : Nat} {Q : xQ} {μ : xM} {a : Nat} (hl : L[0]? = some (some (.ref a))) (h : x_V S 31 29 L (.ref a :: st) μ n Q) : x_V S 31 28 L (st) μ n Q := x_aload_n d31_28 hl h
theorem s31_28N {S : Nat × (Nat → Int32)} {L : List (Option Value)} {st : List Value} {n : Nat} {Q : xQ} {μ : xM} (hl : L[0]? = some (some .null)) (h : x_V S 31 29 L (.null :: st) μ n Q) : x_V S 31 28 L st μ n Q := x_aload_nN d31_28 hl h
theorem s31_29 {S : Nat × (Nat → Int32)} {L : List (Option Value)} {st : List Value} {n : Nat} {Q : xQ} {μ : xM}  {a : Nat} (hs : x_sh a = (1, 2)) (hst : st.length ≤ 4) (h : x_V S 33 0 [some (.ref a), none, none] [] μ n (x_bk S 31 29 L st Q)) : x_V S 31 29 L (.ref a :: st) μ n Q := x_callV (k' := 33) (as := []) (na := 0) d31_29 ⟨w511, by decide +kernel, by decide, by decide, by decide, by decide, by decide⟩ cf1 w508 w510 wp9 (by decide +kernel) rfl hs (fun v hv => by
    cases hv) hst h
theorem s31_32 {S : Nat × (Nat → Int32)} {L : List (Option Value)} {st : List Value} {n : Nat} {Q : xQ} {μ : xM} {x : Int32} (hl : L[1]? = some (some (.int x))) (h : x_V S 31 33 L (.int x :: st) μ n Q) : x_V S 31 32 L (st) μ n Q := x_iload_n d31_32 hl h
theorem s31_33 {S : Nat × (Nat → Int32)} {L : List (Option Value)} {st : List Value} {n : Nat} {Q : xQ} {μ : xM} {x y : Int} (hx : ib x) (hy : ib y) (kt : x ≠ y → x_V S 31 64 L (st) μ n Q) (kf : x = y → x_V S 31 36 L (st) μ n Q) : x_V S 31 33 L (.int (I y) :: .int (I x) :: st) μ n Q := v_icmp_ne d31_33 (by decide) hx hy kt kf
theorem s31_36 {S : Nat × (Nat → Int32)} {L : List (Option Value)} {st : List Value} {n : Nat} {Q : xQ} {μ : xM} {a : Nat} (hl : L[0]? = some (some (.ref a))) (h : x_V S 31 37 L (.ref a :: st) μ n Q) : x_V S 31 36 L (st) μ n Q := x_aload_n d31_36 hl h
theorem s31_36N {S : Nat × (Nat → Int32)} {L : List (Option Value)} {st : List Value} {n : Nat} {Q : xQ} {μ : xM} (hl : L[0]? = some (some .null)) (h : x_V S 31 37 L (.null :: st) μ n Q) : x_V S 31 36 L st μ n Q := x_aload_nN d31_36 hl h
theorem s31_37 {S : Nat × (Nat → Int32)} {L : List (Option Value)} {st : List Value} {n : Nat} {Q : xQ} {g : Nat → Nat → Int} {a : Nat} (hs : x_sh a = (1, 2)) (hp : x_pt a 1 = none) (ha : a ≠ x_out) (h : x_V S 31 40 L (.int (I (g a 1)) :: st) (x_vm g) n Q) : x_V S 31 37 L (.ref a :: st) (x_vm g) n Q := v_get (i := 1) cf1 d31_37 (by decide) w53 hs hp ha h
theorem s31_40 {S : Nat × (Nat → Int32)} {L : List (Option Value)} {st : List Value} {n : Nat} {Q : xQ} {μ : xM} {x : Int32} (hl : L[2]? = some (some (.int x))) (h : x_V S 31 41 L (.int x :: st) μ n Q) : x_V S 31 40 L (st) μ n Q := x_iload_n d31_40 hl h
theorem s31_41 {S : Nat × (Nat → Int32)} {L : List (Option Value)} {st : List Value} {n : Nat} {Q : xQ} {μ : xM} {x y : Int} (h : x_V S 31 42 L (.int (I (x - y)) :: st) μ n Q) : x_V S 31 41 L (.int (I y) :: .int (I x) :: st) μ n Q := v_isub d31_41 h
theorem s31_42 {S : Nat × (Nat → Int32)} {L : List (Option Value)} {st : List Value} {n : Nat} {Q : xQ} {μ : xM}  (h : x_V S 31 43 L (.int (I 4) :: st) μ n Q) : x_V S 31 42 L (st) μ n Q := x_iconst (by decide +kernel) d31_42 h
theorem s31_43 {S : Nat × (Nat → Int32)} {L : List (Option Value)} {st : List Value} {n : Nat} {Q : xQ} {μ : xM} {x y : Int} (hx : ib x) (hy : ib y) (kt : x ≠ y → x_V S 31 64 L (st) μ n Q) (kf : x = y → x_V S 31 46 L (st) μ n Q) : x_V S 31 43 L (.int (I y) :: .int (I x) :: st) μ n Q := v_icmp_ne d31_43 (by decide) hx hy kt kf
theorem s31_46 {S : Nat × (Nat → Int32)} {L : List (Option Value)} {st : List Value} {n : Nat} {Q : xQ} {μ : xM} {a : Nat} (hl : L[0]? = some (some (.ref a))) (h : x_V S 31 47 L (.ref a :: st) μ n Q) : x_V S 31 46 L (st) μ n Q := x_aload_n d31_46 hl h
theorem s31_46N {S : Nat × (Nat → Int32)} {L : List (Option Value)} {st : List Value} {n : Nat} {Q : xQ} {μ : xM} (hl : L[0]? = some (some .null)) (h : x_V S 31 47 L (.null :: st) μ n Q) : x_V S 31 46 L st μ n Q := x_aload_nN d31_46 hl h
theorem s31_47 {S : Nat × (Nat → Int32)} {L : List (Option Value)} {st : List Value} {n : Nat} {Q : xQ} {g : Nat → Nat → Int} {a : Nat} (hs : x_sh a = (1, 2)) (hp : x_pt a 1 = none) (ha : a ≠ x_out) (h : x_V S 31 50 L (.int (I (g a 1)) :: st) (x_vm g) n Q) : x_V S 31 47 L (.ref a :: st) (x_vm g) n Q := v_get (i := 1) cf1 d31_47 (by decide) w53 hs hp ha h
theorem s31_50 {S : Nat × (Nat → Int32)} {L : List (Option Value)} {st : List Value} {n : Nat} {Q : xQ} {μ : xM} {a : Nat} (hl : L[0]? = some (some (.ref a))) (h : x_V S 31 51 L (.ref a :: st) μ n Q) : x_V S 31 50 L (st) μ n Q := x_aload_n d31_50 hl h
theorem s31_50N {S : Nat × (Nat → Int32)} {L : List (Option Value)} {st : List Value} {n : Nat} {Q : xQ} {μ : xM} (hl : L[0]? = some (some .null)) (h : x_V S 31 51 L (.null :: st) μ n Q) : x_V S 31 50 L st μ n Q := x_aload_nN d31_50 hl h
theorem s31_51 {S : Nat × (Nat → Int32)} {L : List (Option Value)} {st : List Value} {n : Nat} {Q : xQ} {g : Nat → Nat → Int} {a : Nat} {v : Value} (hs : x_sh a = (1, 2)) (hp : x_pt a 0 = some v) (h : x_V S 31 54 L (v :: st) (x_vm g) n Q) : x_V S 31 51 L (.ref a :: st) (x_vm g) n Q := v_getp (i := 0) cf1 d31_51 (by decide) w51 hs hp h
theorem s31_54 {S : Nat × (Nat → Int32)} {L : List (Option Value)} {st : List Value} {n : Nat} {Q : xQ} {g : Nat → Nat → Int} {a : Nat} (hs : x_sh a = (2, 2)) (hp : x_pt a 1 = none) (ha : a ≠ x_out) (h : x_V S 31 57 L (.int (I (g a 1)) :: st) (x_vm g) n Q) : x_V S 31 54 L (.ref a :: st) (x_vm g) n Q := v_get (i := 1) cf2 d31_54 (by decide) w44 hs hp ha h
theorem s31_57 {S : Nat × (Nat → Int32)} {L : List (Option Value)} {st : List Value} {n : Nat} {Q : xQ} {μ : xM} {x y : Int} (hx : ib x) (hy : ib y) (kt : x ≠ y → x_V S 31 64 L (st) μ n Q) (kf : x = y → x_V S 31 60 L (st) μ n Q) : x_V S 31 57 L (.int (I y) :: .int (I x) :: st) μ n Q := v_icmp_ne d31_57 (by decide) hx hy kt kf
theorem s31_60 {S : Nat × (Nat → Int32)} {L : List (Option Value)} {st : List Value} {n : Nat} {Q : xQ} {μ : xM}  (h : x_V S 31 61 L (.int (I 1) :: st) μ n Q) : x_V S 31 60 L (st) μ n Q := x_iconst (by decide +kernel) d31_60 h
theorem s31_61 {S : Nat × (Nat → Int32)} {L : List (Option Value)} {st : List Value} {n : Nat} {Q : xQ} {μ : xM}  (h : x_V S 31 65 L (st) μ n Q) : x_V S 31 61 L (st) μ n Q := x_goto (tgt := 65) (by decide) d31_61 h
theorem s31_64 {S : Nat × (Nat → Int32)} {L : List (Option Value)} {st : List Value} {n : Nat} {Q : xQ} {μ : xM}  (h : x_V S 31 65 L (.int (I 0) :: st) μ n Q) : x_V S 31 64 L (st) μ n Q := x_iconst (by decide +kernel) d31_64 h
theorem s31_65 {S : Nat × (Nat → Int32)} {L : List (Option Value)} {st : List Value} {n : Nat} {Q : xQ} {μ : xM} {v : Int} (hv : v = 0 ∨ v = 1) (h : Q (.inl (some (.int (I v)))) μ n) : x_V S 31 65 L (.int (I v) :: []) μ n Q := v_zreturn d31_65 rfl hv h
theorem mC_32 : mC 32 = prog_3_method_6_code := rfl
theorem d32_0 : decode (mC 32) 0 = .ok (.aload_n 0, 1) := by rw [mC_32]; decide +kernel
theorem d32_1 : decode (mC 32) 1 = .ok (.getfield 18, 3) := by rw [mC_32]; decide +kernel
theorem d32_4 : decode (mC 32) 4 = .ok (.istore_n 2, 1) := by rw [mC_32]; decide +kernel
theorem d32_5 : decode (mC 32) 5 = .ok (.bipush 100, 2) := by rw [mC_32]; decide +kernel
theorem d32_7 : decode (mC 32) 7 = .ok (.istore_n 3, 1) := by rw [mC_32]; decide +kernel
theorem d32_8 : decode (mC 32) 8 = .ok (.iload_n 3, 1) := by rw [mC_32]; decide +kernel
theorem d32_9 : decode (mC 32) 9 = .ok (.ifCond .le 41, 3) := by rw [mC_32]; decide +kernel
theorem d32_12 : decode (mC 32) 12 = .ok (.iload_n 1, 1) := by rw [mC_32]; decide +kernel
theorem d32_13 : decode (mC 32) 13 = .ok (.iload_n 3, 1) := by rw [mC_32]; decide +kernel
theorem d32_14 : decode (mC 32) 14 = .ok (.if_icmp .lt 28, 3) := by rw [mC_32]; decide +kernel
theorem d32_17 : decode (mC 32) 17 = .ok (.aload_n 0, 1) := by rw [mC_32]; decide +kernel
theorem d32_18 : decode (mC 32) 18 = .ok (.getfield 12, 3) := by rw [mC_32]; decide +kernel
theorem d32_21 : decode (mC 32) 21 = .ok (.iload_n 2, 1) := by rw [mC_32]; decide +kernel
theorem d32_22 : decode (mC 32) 22 = .ok (.invokevirtual 79, 3) := by rw [mC_32]; decide +kernel
theorem d32_25 : decode (mC 32) 25 = .ok (.bipush 48, 2) := by rw [mC_32]; decide +kernel
theorem d32_27 : decode (mC 32) 27 = .ok (.iload_n 1, 1) := by rw [mC_32]; decide +kernel
theorem d32_28 : decode (mC 32) 28 = .ok (.iload_n 3, 1) := by rw [mC_32]; decide +kernel
theorem d32_29 : decode (mC 32) 29 = .ok (.idiv, 1) := by rw [mC_32]; decide +kernel
theorem d32_30 : decode (mC 32) 30 = .ok (.bipush 10, 2) := by rw [mC_32]; decide +kernel
theorem d32_32 : decode (mC 32) 32 = .ok (.irem, 1) := by rw [mC_32]; decide +kernel
theorem d32_33 : decode (mC 32) 33 = .ok (.iadd, 1) := by rw [mC_32]; decide +kernel
theorem d32_34 : decode (mC 32) 34 = .ok (.if_icmp .eq 5, 3) := by rw [mC_32]; decide +kernel
theorem d32_37 : decode (mC 32) 37 = .ok (.iconst 0, 1) := by rw [mC_32]; decide +kernel
theorem d32_38 : decode (mC 32) 38 = .ok (.ireturn, 1) := by rw [mC_32]; decide +kernel
theorem d32_39 : decode (mC 32) 39 = .ok (.iinc 2 1, 3) := by rw [mC_32]; decide +kernel
theorem d32_42 : decode (mC 32) 42 = .ok (.iload_n 3, 1) := by rw [mC_32]; decide +kernel
theorem d32_43 : decode (mC 32) 43 = .ok (.bipush 10, 2) := by rw [mC_32]; decide +kernel
theorem d32_45 : decode (mC 32) 45 = .ok (.idiv, 1) := by rw [mC_32]; decide +kernel
theorem d32_46 : decode (mC 32) 46 = .ok (.istore_n 3, 1) := by rw [mC_32]; decide +kernel
theorem d32_47 : decode (mC 32) 47 = .ok (.goto (-39), 3) := by rw [mC_32]; decide +kernel
theorem d32_50 : decode (mC 32) 50 = .ok (.aload_n 0, 1) := by rw [mC_32]; decide +kernel
theorem d32_51 : decode (mC 32) 51 = .ok (.getfield 12, 3) := by rw [mC_32]; decide +kernel
theorem d32_54 : decode (mC 32) 54 = .ok (.iload_n 2, 1) := by rw [mC_32]; decide +kernel
theorem d32_55 : decode (mC 32) 55 = .ok (.invokevirtual 79, 3) := by rw [mC_32]; decide +kernel
theorem d32_58 : decode (mC 32) 58 = .ok (.bipush 61, 2) := by rw [mC_32]; decide +kernel
theorem d32_60 : decode (mC 32) 60 = .ok (.if_icmp .eq 5, 3) := by rw [mC_32]; decide +kernel
theorem d32_63 : decode (mC 32) 63 = .ok (.iconst 0, 1) := by rw [mC_32]; decide +kernel
theorem d32_64 : decode (mC 32) 64 = .ok (.ireturn, 1) := by rw [mC_32]; decide +kernel
theorem d32_65 : decode (mC 32) 65 = .ok (.aload_n 0, 1) := by rw [mC_32]; decide +kernel
theorem d32_66 : decode (mC 32) 66 = .ok (.iload_n 2, 1) := by rw [mC_32]; decide +kernel
theorem d32_67 : decode (mC 32) 67 = .ok (.iconst 1, 1) := by rw [mC_32]; decide +kernel
theorem d32_68 : decode (mC 32) 68 = .ok (.iadd, 1) := by rw [mC_32]; decide +kernel
theorem d32_69 : decode (mC 32) 69 = .ok (.putfield 18, 3) := by rw [mC_32]; decide +kernel
theorem d32_72 : decode (mC 32) 72 = .ok (.iconst 1, 1) := by rw [mC_32]; decide +kernel
theorem d32_73 : decode (mC 32) 73 = .ok (.ireturn, 1) := by rw [mC_32]; decide +kernel
theorem s32_0 {S : Nat × (Nat → Int32)} {L : List (Option Value)} {st : List Value} {n : Nat} {Q : xQ} {μ : xM} {a : Nat} (hl : L[0]? = some (some (.ref a))) (h : x_V S 32 1 L (.ref a :: st) μ n Q) : x_V S 32 0 L (st) μ n Q := x_aload_n d32_0 hl h
theorem s32_0N {S : Nat × (Nat → Int32)} {L : List (Option Value)} {st : List Value} {n : Nat} {Q : xQ} {μ : xM} (hl : L[0]? = some (some .null)) (h : x_V S 32 1 L (.null :: st) μ n Q) : x_V S 32 0 L st μ n Q := x_aload_nN d32_0 hl h
theorem s32_1 {S : Nat × (Nat → Int32)} {L : List (Option Value)} {st : List Value} {n : Nat} {Q : xQ} {g : Nat → Nat → Int} {a : Nat} (hs : x_sh a = (1, 2)) (hp : x_pt a 1 = none) (ha : a ≠ x_out) (h : x_V S 32 4 L (.int (I (g a 1)) :: st) (x_vm g) n Q) : x_V S 32 1 L (.ref a :: st) (x_vm g) n Q := v_get (i := 1) cf1 d32_1 (by decide) w53 hs hp ha h
theorem s32_4 {S : Nat × (Nat → Int32)} {L : List (Option Value)} {st : List Value} {n : Nat} {Q : xQ} {μ : xM} {x : Int32} (h : x_V S 32 5 (L.set 2 (some (.int x))) (st) μ n Q) : x_V S 32 4 L (.int x :: st) μ n Q := x_istore_n d32_4 (by decide) h
theorem s32_5 {S : Nat × (Nat → Int32)} {L : List (Option Value)} {st : List Value} {n : Nat} {Q : xQ} {μ : xM}  (h : x_V S 32 7 L (.int (I 100) :: st) μ n Q) : x_V S 32 5 L (st) μ n Q := x_bipush (by decide +kernel) d32_5 h
theorem s32_7 {S : Nat × (Nat → Int32)} {L : List (Option Value)} {st : List Value} {n : Nat} {Q : xQ} {μ : xM} {x : Int32} (h : x_V S 32 8 (L.set 3 (some (.int x))) (st) μ n Q) : x_V S 32 7 L (.int x :: st) μ n Q := x_istore_n d32_7 (by decide) h
theorem s32_8 {S : Nat × (Nat → Int32)} {L : List (Option Value)} {st : List Value} {n : Nat} {Q : xQ} {μ : xM} {x : Int32} (hl : L[3]? = some (some (.int x))) (h : x_V S 32 9 L (.int x :: st) μ n Q) : x_V S 32 8 L (st) μ n Q := x_iload_n d32_8 hl h
theorem s32_9 {S : Nat × (Nat → Int32)} {L : List (Option Value)} {st : List Value} {n : Nat} {Q : xQ} {μ : xM} {x : Int} (hx : ib x) (kt : x ≤ 0 → x_V S 32 50 L (st) μ n Q) (kf : 0 < x → x_V S 32 12 L (st) μ n Q) : x_V S 32 9 L (.int (I x) :: st) μ n Q := v_if_le d32_9 (by decide) hx kt kf
theorem s32_12 {S : Nat × (Nat → Int32)} {L : List (Option Value)} {st : List Value} {n : Nat} {Q : xQ} {μ : xM} {x : Int32} (hl : L[1]? = some (some (.int x))) (h : x_V S 32 13 L (.int x :: st) μ n Q) : x_V S 32 12 L (st) μ n Q := x_iload_n d32_12 hl h
theorem s32_13 {S : Nat × (Nat → Int32)} {L : List (Option Value)} {st : List Value} {n : Nat} {Q : xQ} {μ : xM} {x : Int32} (hl : L[3]? = some (some (.int x))) (h : x_V S 32 14 L (.int x :: st) μ n Q) : x_V S 32 13 L (st) μ n Q := x_iload_n d32_13 hl h
theorem s32_14 {S : Nat × (Nat → Int32)} {L : List (Option Value)} {st : List Value} {n : Nat} {Q : xQ} {μ : xM} {x y : Int} (hx : ib x) (hy : ib y) (kt : x < y → x_V S 32 42 L (st) μ n Q) (kf : y ≤ x → x_V S 32 17 L (st) μ n Q) : x_V S 32 14 L (.int (I y) :: .int (I x) :: st) μ n Q := v_icmp_lt d32_14 (by decide) hx hy kt kf
theorem s32_17 {S : Nat × (Nat → Int32)} {L : List (Option Value)} {st : List Value} {n : Nat} {Q : xQ} {μ : xM} {a : Nat} (hl : L[0]? = some (some (.ref a))) (h : x_V S 32 18 L (.ref a :: st) μ n Q) : x_V S 32 17 L (st) μ n Q := x_aload_n d32_17 hl h
theorem s32_17N {S : Nat × (Nat → Int32)} {L : List (Option Value)} {st : List Value} {n : Nat} {Q : xQ} {μ : xM} (hl : L[0]? = some (some .null)) (h : x_V S 32 18 L (.null :: st) μ n Q) : x_V S 32 17 L st μ n Q := x_aload_nN d32_17 hl h
theorem s32_18 {S : Nat × (Nat → Int32)} {L : List (Option Value)} {st : List Value} {n : Nat} {Q : xQ} {g : Nat → Nat → Int} {a : Nat} {v : Value} (hs : x_sh a = (1, 2)) (hp : x_pt a 0 = some v) (h : x_V S 32 21 L (v :: st) (x_vm g) n Q) : x_V S 32 18 L (.ref a :: st) (x_vm g) n Q := v_getp (i := 0) cf1 d32_18 (by decide) w51 hs hp h
theorem s32_21 {S : Nat × (Nat → Int32)} {L : List (Option Value)} {st : List Value} {n : Nat} {Q : xQ} {μ : xM} {x : Int32} (hl : L[2]? = some (some (.int x))) (h : x_V S 32 22 L (.int x :: st) μ n Q) : x_V S 32 21 L (st) μ n Q := x_iload_n d32_21 hl h
theorem s32_22 {S : Nat × (Nat → Int32)} {L : List (Option Value)} {st : List Value} {n : Nat} {Q : xQ} {μ : xM} {x0 : Int32} {a : Nat} (hs : x_sh a = (2, 2)) (hst : st.length ≤ 4) (h : x_V S 9 0 [some (.ref a), some (.int x0)] [] μ n (x_bk S 32 22 L st Q)) : x_V S 32 22 L (.int x0 :: .ref a :: st) μ n Q := x_callV (k' := 9) (as := [.int x0]) (na := 1) d32_22 ⟨w454, by decide +kernel, by decide, by decide, by decide, by decide, by decide⟩ cf2 w499 w452 w453 (by decide +kernel) rfl hs (fun v hv => by
    simp only [List.mem_cons, List.not_mem_nil, or_false] at hv
    rcases hv with rfl <;> first | rfl | assumption) hst h
theorem s32_25 {S : Nat × (Nat → Int32)} {L : List (Option Value)} {st : List Value} {n : Nat} {Q : xQ} {μ : xM}  (h : x_V S 32 27 L (.int (I 48) :: st) μ n Q) : x_V S 32 25 L (st) μ n Q := x_bipush (by decide +kernel) d32_25 h
theorem s32_27 {S : Nat × (Nat → Int32)} {L : List (Option Value)} {st : List Value} {n : Nat} {Q : xQ} {μ : xM} {x : Int32} (hl : L[1]? = some (some (.int x))) (h : x_V S 32 28 L (.int x :: st) μ n Q) : x_V S 32 27 L (st) μ n Q := x_iload_n d32_27 hl h
theorem s32_28 {S : Nat × (Nat → Int32)} {L : List (Option Value)} {st : List Value} {n : Nat} {Q : xQ} {μ : xM} {x : Int32} (hl : L[3]? = some (some (.int x))) (h : x_V S 32 29 L (.int x :: st) μ n Q) : x_V S 32 28 L (st) μ n Q := x_iload_n d32_28 hl h
theorem s32_29 {S : Nat × (Nat → Int32)} {L : List (Option Value)} {st : List Value} {n : Nat} {Q : xQ} {μ : xM} {x y : Int} (hx : ib x) (hy : ib y) (hx0 : 0 ≤ x) (hy0 : 0 < y) (h : x_V S 32 30 L (.int (I (x / y)) :: st) μ n Q) : x_V S 32 29 L (.int (I y) :: .int (I x) :: st) μ n Q := v_idiv d32_29 hx hy hx0 hy0 h
theorem s32_30 {S : Nat × (Nat → Int32)} {L : List (Option Value)} {st : List Value} {n : Nat} {Q : xQ} {μ : xM}  (h : x_V S 32 32 L (.int (I 10) :: st) μ n Q) : x_V S 32 30 L (st) μ n Q := x_bipush (by decide +kernel) d32_30 h
theorem s32_32 {S : Nat × (Nat → Int32)} {L : List (Option Value)} {st : List Value} {n : Nat} {Q : xQ} {μ : xM} {x y : Int} (hx : ib x) (hy : ib y) (hx0 : 0 ≤ x) (hy0 : 0 < y) (h : x_V S 32 33 L (.int (I (x % y)) :: st) μ n Q) : x_V S 32 32 L (.int (I y) :: .int (I x) :: st) μ n Q := v_irem d32_32 hx hy hx0 hy0 h
theorem s32_33 {S : Nat × (Nat → Int32)} {L : List (Option Value)} {st : List Value} {n : Nat} {Q : xQ} {μ : xM} {x y : Int} (h : x_V S 32 34 L (.int (I (x + y)) :: st) μ n Q) : x_V S 32 33 L (.int (I y) :: .int (I x) :: st) μ n Q := v_iadd d32_33 h
theorem s32_34 {S : Nat × (Nat → Int32)} {L : List (Option Value)} {st : List Value} {n : Nat} {Q : xQ} {μ : xM} {x y : Int} (hx : ib x) (hy : ib y) (kt : x = y → x_V S 32 39 L (st) μ n Q) (kf : x ≠ y → x_V S 32 37 L (st) μ n Q) : x_V S 32 34 L (.int (I y) :: .int (I x) :: st) μ n Q := v_icmp_eq d32_34 (by decide) hx hy kt kf
theorem s32_37 {S : Nat × (Nat → Int32)} {L : List (Option Value)} {st : List Value} {n : Nat} {Q : xQ} {μ : xM}  (h : x_V S 32 38 L (.int (I 0) :: st) μ n Q) : x_V S 32 37 L (st) μ n Q := x_iconst (by decide +kernel) d32_37 h
theorem s32_38 {S : Nat × (Nat → Int32)} {L : List (Option Value)} {st : List Value} {n : Nat} {Q : xQ} {μ : xM} {v : Int} (hv : v = 0 ∨ v = 1) (h : Q (.inl (some (.int (I v)))) μ n) : x_V S 32 38 L (.int (I v) :: []) μ n Q := v_zreturn d32_38 rfl hv h
theorem s32_39 {S : Nat × (Nat → Int32)} {L : List (Option Value)} {st : List Value} {n : Nat} {Q : xQ} {μ : xM} {x : Int} (hl : L[2]? = some (some (.int (I x)))) (h : x_V S 32 42 (L.set 2 (some (.int (I (x + 1))))) (st) μ n Q) : x_V S 32 39 L (st) μ n Q := v_iinc d32_39 hl (by decide) h
theorem s32_42 {S : Nat × (Nat → Int32)} {L : List (Option Value)} {st : List Value} {n : Nat} {Q : xQ} {μ : xM} {x : Int32} (hl : L[3]? = some (some (.int x))) (h : x_V S 32 43 L (.int x :: st) μ n Q) : x_V S 32 42 L (st) μ n Q := x_iload_n d32_42 hl h
theorem s32_43 {S : Nat × (Nat → Int32)} {L : List (Option Value)} {st : List Value} {n : Nat} {Q : xQ} {μ : xM}  (h : x_V S 32 45 L (.int (I 10) :: st) μ n Q) : x_V S 32 43 L (st) μ n Q := x_bipush (by decide +kernel) d32_43 h
theorem s32_45 {S : Nat × (Nat → Int32)} {L : List (Option Value)} {st : List Value} {n : Nat} {Q : xQ} {μ : xM} {x y : Int} (hx : ib x) (hy : ib y) (hx0 : 0 ≤ x) (hy0 : 0 < y) (h : x_V S 32 46 L (.int (I (x / y)) :: st) μ n Q) : x_V S 32 45 L (.int (I y) :: .int (I x) :: st) μ n Q := v_idiv d32_45 hx hy hx0 hy0 h
theorem s32_46 {S : Nat × (Nat → Int32)} {L : List (Option Value)} {st : List Value} {n : Nat} {Q : xQ} {μ : xM} {x : Int32} (h : x_V S 32 47 (L.set 3 (some (.int x))) (st) μ n Q) : x_V S 32 46 L (.int x :: st) μ n Q := x_istore_n d32_46 (by decide) h
theorem s32_47 {S : Nat × (Nat → Int32)} {L : List (Option Value)} {st : List Value} {n : Nat} {Q : xQ} {μ : xM}  (h : x_V S 32 8 L (st) μ n Q) : x_V S 32 47 L (st) μ n Q := x_goto (tgt := 8) (by decide) d32_47 h
theorem s32_50 {S : Nat × (Nat → Int32)} {L : List (Option Value)} {st : List Value} {n : Nat} {Q : xQ} {μ : xM} {a : Nat} (hl : L[0]? = some (some (.ref a))) (h : x_V S 32 51 L (.ref a :: st) μ n Q) : x_V S 32 50 L (st) μ n Q := x_aload_n d32_50 hl h
theorem s32_50N {S : Nat × (Nat → Int32)} {L : List (Option Value)} {st : List Value} {n : Nat} {Q : xQ} {μ : xM} (hl : L[0]? = some (some .null)) (h : x_V S 32 51 L (.null :: st) μ n Q) : x_V S 32 50 L st μ n Q := x_aload_nN d32_50 hl h
theorem s32_51 {S : Nat × (Nat → Int32)} {L : List (Option Value)} {st : List Value} {n : Nat} {Q : xQ} {g : Nat → Nat → Int} {a : Nat} {v : Value} (hs : x_sh a = (1, 2)) (hp : x_pt a 0 = some v) (h : x_V S 32 54 L (v :: st) (x_vm g) n Q) : x_V S 32 51 L (.ref a :: st) (x_vm g) n Q := v_getp (i := 0) cf1 d32_51 (by decide) w51 hs hp h
theorem s32_54 {S : Nat × (Nat → Int32)} {L : List (Option Value)} {st : List Value} {n : Nat} {Q : xQ} {μ : xM} {x : Int32} (hl : L[2]? = some (some (.int x))) (h : x_V S 32 55 L (.int x :: st) μ n Q) : x_V S 32 54 L (st) μ n Q := x_iload_n d32_54 hl h
theorem s32_55 {S : Nat × (Nat → Int32)} {L : List (Option Value)} {st : List Value} {n : Nat} {Q : xQ} {μ : xM} {x0 : Int32} {a : Nat} (hs : x_sh a = (2, 2)) (hst : st.length ≤ 4) (h : x_V S 9 0 [some (.ref a), some (.int x0)] [] μ n (x_bk S 32 55 L st Q)) : x_V S 32 55 L (.int x0 :: .ref a :: st) μ n Q := x_callV (k' := 9) (as := [.int x0]) (na := 1) d32_55 ⟨w454, by decide +kernel, by decide, by decide, by decide, by decide, by decide⟩ cf2 w499 w452 w453 (by decide +kernel) rfl hs (fun v hv => by
    simp only [List.mem_cons, List.not_mem_nil, or_false] at hv
    rcases hv with rfl <;> first | rfl | assumption) hst h
theorem s32_58 {S : Nat × (Nat → Int32)} {L : List (Option Value)} {st : List Value} {n : Nat} {Q : xQ} {μ : xM}  (h : x_V S 32 60 L (.int (I 61) :: st) μ n Q) : x_V S 32 58 L (st) μ n Q := x_bipush (by decide +kernel) d32_58 h
theorem s32_60 {S : Nat × (Nat → Int32)} {L : List (Option Value)} {st : List Value} {n : Nat} {Q : xQ} {μ : xM} {x y : Int} (hx : ib x) (hy : ib y) (kt : x = y → x_V S 32 65 L (st) μ n Q) (kf : x ≠ y → x_V S 32 63 L (st) μ n Q) : x_V S 32 60 L (.int (I y) :: .int (I x) :: st) μ n Q := v_icmp_eq d32_60 (by decide) hx hy kt kf
theorem s32_63 {S : Nat × (Nat → Int32)} {L : List (Option Value)} {st : List Value} {n : Nat} {Q : xQ} {μ : xM}  (h : x_V S 32 64 L (.int (I 0) :: st) μ n Q) : x_V S 32 63 L (st) μ n Q := x_iconst (by decide +kernel) d32_63 h
theorem s32_64 {S : Nat × (Nat → Int32)} {L : List (Option Value)} {st : List Value} {n : Nat} {Q : xQ} {μ : xM} {v : Int} (hv : v = 0 ∨ v = 1) (h : Q (.inl (some (.int (I v)))) μ n) : x_V S 32 64 L (.int (I v) :: []) μ n Q := v_zreturn d32_64 rfl hv h
theorem s32_65 {S : Nat × (Nat → Int32)} {L : List (Option Value)} {st : List Value} {n : Nat} {Q : xQ} {μ : xM} {a : Nat} (hl : L[0]? = some (some (.ref a))) (h : x_V S 32 66 L (.ref a :: st) μ n Q) : x_V S 32 65 L (st) μ n Q := x_aload_n d32_65 hl h
theorem s32_65N {S : Nat × (Nat → Int32)} {L : List (Option Value)} {st : List Value} {n : Nat} {Q : xQ} {μ : xM} (hl : L[0]? = some (some .null)) (h : x_V S 32 66 L (.null :: st) μ n Q) : x_V S 32 65 L st μ n Q := x_aload_nN d32_65 hl h
theorem s32_66 {S : Nat × (Nat → Int32)} {L : List (Option Value)} {st : List Value} {n : Nat} {Q : xQ} {μ : xM} {x : Int32} (hl : L[2]? = some (some (.int x))) (h : x_V S 32 67 L (.int x :: st) μ n Q) : x_V S 32 66 L (st) μ n Q := x_iload_n d32_66 hl h
theorem s32_67 {S : Nat × (Nat → Int32)} {L : List (Option Value)} {st : List Value} {n : Nat} {Q : xQ} {μ : xM}  (h : x_V S 32 68 L (.int (I 1) :: st) μ n Q) : x_V S 32 67 L (st) μ n Q := x_iconst (by decide +kernel) d32_67 h
theorem s32_68 {S : Nat × (Nat → Int32)} {L : List (Option Value)} {st : List Value} {n : Nat} {Q : xQ} {μ : xM} {x y : Int} (h : x_V S 32 69 L (.int (I (x + y)) :: st) μ n Q) : x_V S 32 68 L (.int (I y) :: .int (I x) :: st) μ n Q := v_iadd d32_68 h
theorem s32_69 {S : Nat × (Nat → Int32)} {L : List (Option Value)} {st : List Value} {n : Nat} {Q : xQ} {g : Nat → Nat → Int} {a : Nat} {x : Int} (hs : x_sh a = (1, 2)) (hp : x_pt a 1 = none) (ha : a ≠ x_out) (h : x_V S 32 72 L (st) (x_vm (x_uf g a 1 x)) n Q) : x_V S 32 69 L (.int (I x) :: .ref a :: st) (x_vm g) n Q := v_put (i := 1) cf1 d32_69 (by decide) rfl w53 hs rfl hp ha h
theorem s32_72 {S : Nat × (Nat → Int32)} {L : List (Option Value)} {st : List Value} {n : Nat} {Q : xQ} {μ : xM}  (h : x_V S 32 73 L (.int (I 1) :: st) μ n Q) : x_V S 32 72 L (st) μ n Q := x_iconst (by decide +kernel) d32_72 h
theorem s32_73 {S : Nat × (Nat → Int32)} {L : List (Option Value)} {st : List Value} {n : Nat} {Q : xQ} {μ : xM} {v : Int} (hv : v = 0 ∨ v = 1) (h : Q (.inl (some (.int (I v)))) μ n) : x_V S 32 73 L (.int (I v) :: []) μ n Q := v_zreturn d32_73 rfl hv h
theorem mC_33 : mC 33 = prog_3_method_7_code := rfl
theorem d33_0 : decode (mC 33) 0 = .ok (.iconst 0, 1) := by rw [mC_33]; decide +kernel
theorem d33_1 : decode (mC 33) 1 = .ok (.istore_n 1, 1) := by rw [mC_33]; decide +kernel
theorem d33_2 : decode (mC 33) 2 = .ok (.iconst 0, 1) := by rw [mC_33]; decide +kernel
theorem d33_3 : decode (mC 33) 3 = .ok (.istore_n 2, 1) := by rw [mC_33]; decide +kernel
theorem d33_4 : decode (mC 33) 4 = .ok (.iload_n 2, 1) := by rw [mC_33]; decide +kernel
theorem d33_5 : decode (mC 33) 5 = .ok (.bipush 6, 2) := by rw [mC_33]; decide +kernel
theorem d33_7 : decode (mC 33) 7 = .ok (.if_icmp .ge 71, 3) := by rw [mC_33]; decide +kernel
theorem d33_10 : decode (mC 33) 10 = .ok (.aload_n 0, 1) := by rw [mC_33]; decide +kernel
theorem d33_11 : decode (mC 33) 11 = .ok (.getfield 12, 3) := by rw [mC_33]; decide +kernel
theorem d33_14 : decode (mC 33) 14 = .ok (.aload_n 0, 1) := by rw [mC_33]; decide +kernel
theorem d33_15 : decode (mC 33) 15 = .ok (.getfield 18, 3) := by rw [mC_33]; decide +kernel
theorem d33_18 : decode (mC 33) 18 = .ok (.invokevirtual 79, 3) := by rw [mC_33]; decide +kernel
theorem d33_21 : decode (mC 33) 21 = .ok (.bipush 48, 2) := by rw [mC_33]; decide +kernel
theorem d33_23 : decode (mC 33) 23 = .ok (.if_icmp .lt 55, 3) := by rw [mC_33]; decide +kernel
theorem d33_26 : decode (mC 33) 26 = .ok (.aload_n 0, 1) := by rw [mC_33]; decide +kernel
theorem d33_27 : decode (mC 33) 27 = .ok (.getfield 12, 3) := by rw [mC_33]; decide +kernel
theorem d33_30 : decode (mC 33) 30 = .ok (.aload_n 0, 1) := by rw [mC_33]; decide +kernel
theorem d33_31 : decode (mC 33) 31 = .ok (.getfield 18, 3) := by rw [mC_33]; decide +kernel
theorem d33_34 : decode (mC 33) 34 = .ok (.invokevirtual 79, 3) := by rw [mC_33]; decide +kernel
theorem d33_37 : decode (mC 33) 37 = .ok (.bipush 57, 2) := by rw [mC_33]; decide +kernel
theorem d33_39 : decode (mC 33) 39 = .ok (.if_icmp .gt 39, 3) := by rw [mC_33]; decide +kernel
theorem d33_42 : decode (mC 33) 42 = .ok (.iload_n 1, 1) := by rw [mC_33]; decide +kernel
theorem d33_43 : decode (mC 33) 43 = .ok (.bipush 10, 2) := by rw [mC_33]; decide +kernel
theorem d33_45 : decode (mC 33) 45 = .ok (.imul, 1) := by rw [mC_33]; decide +kernel
theorem d33_46 : decode (mC 33) 46 = .ok (.aload_n 0, 1) := by rw [mC_33]; decide +kernel
theorem d33_47 : decode (mC 33) 47 = .ok (.getfield 12, 3) := by rw [mC_33]; decide +kernel
theorem d33_50 : decode (mC 33) 50 = .ok (.aload_n 0, 1) := by rw [mC_33]; decide +kernel
theorem d33_51 : decode (mC 33) 51 = .ok (.getfield 18, 3) := by rw [mC_33]; decide +kernel
theorem d33_54 : decode (mC 33) 54 = .ok (.invokevirtual 79, 3) := by rw [mC_33]; decide +kernel
theorem d33_57 : decode (mC 33) 57 = .ok (.iadd, 1) := by rw [mC_33]; decide +kernel
theorem d33_58 : decode (mC 33) 58 = .ok (.bipush 48, 2) := by rw [mC_33]; decide +kernel
theorem d33_60 : decode (mC 33) 60 = .ok (.isub, 1) := by rw [mC_33]; decide +kernel
theorem d33_61 : decode (mC 33) 61 = .ok (.istore_n 1, 1) := by rw [mC_33]; decide +kernel
theorem d33_62 : decode (mC 33) 62 = .ok (.iinc 2 1, 3) := by rw [mC_33]; decide +kernel
theorem d33_65 : decode (mC 33) 65 = .ok (.aload_n 0, 1) := by rw [mC_33]; decide +kernel
theorem d33_66 : decode (mC 33) 66 = .ok (.dup, 1) := by rw [mC_33]; decide +kernel
theorem d33_67 : decode (mC 33) 67 = .ok (.getfield 18, 3) := by rw [mC_33]; decide +kernel
theorem d33_70 : decode (mC 33) 70 = .ok (.iconst 1, 1) := by rw [mC_33]; decide +kernel
theorem d33_71 : decode (mC 33) 71 = .ok (.iadd, 1) := by rw [mC_33]; decide +kernel
theorem d33_72 : decode (mC 33) 72 = .ok (.putfield 18, 3) := by rw [mC_33]; decide +kernel
theorem d33_75 : decode (mC 33) 75 = .ok (.goto (-71), 3) := by rw [mC_33]; decide +kernel
theorem d33_78 : decode (mC 33) 78 = .ok (.iload_n 2, 1) := by rw [mC_33]; decide +kernel
theorem d33_79 : decode (mC 33) 79 = .ok (.ifCond .le 14, 3) := by rw [mC_33]; decide +kernel
theorem d33_82 : decode (mC 33) 82 = .ok (.aload_n 0, 1) := by rw [mC_33]; decide +kernel
theorem d33_83 : decode (mC 33) 83 = .ok (.invokevirtual 81, 3) := by rw [mC_33]; decide +kernel
theorem d33_86 : decode (mC 33) 86 = .ok (.ifCond .eq 7, 3) := by rw [mC_33]; decide +kernel
theorem d33_89 : decode (mC 33) 89 = .ok (.iload_n 1, 1) := by rw [mC_33]; decide +kernel
theorem d33_90 : decode (mC 33) 90 = .ok (.goto 4, 3) := by rw [mC_33]; decide +kernel
theorem d33_93 : decode (mC 33) 93 = .ok (.iconst (-1), 1) := by rw [mC_33]; decide +kernel
theorem d33_94 : decode (mC 33) 94 = .ok (.ireturn, 1) := by rw [mC_33]; decide +kernel
theorem s33_0 {S : Nat × (Nat → Int32)} {L : List (Option Value)} {st : List Value} {n : Nat} {Q : xQ} {μ : xM}  (h : x_V S 33 1 L (.int (I 0) :: st) μ n Q) : x_V S 33 0 L (st) μ n Q := x_iconst (by decide +kernel) d33_0 h
theorem s33_1 {S : Nat × (Nat → Int32)} {L : List (Option Value)} {st : List Value} {n : Nat} {Q : xQ} {μ : xM} {x : Int32} (h : x_V S 33 2 (L.set 1 (some (.int x))) (st) μ n Q) : x_V S 33 1 L (.int x :: st) μ n Q := x_istore_n d33_1 (by decide) h
theorem s33_2 {S : Nat × (Nat → Int32)} {L : List (Option Value)} {st : List Value} {n : Nat} {Q : xQ} {μ : xM}  (h : x_V S 33 3 L (.int (I 0) :: st) μ n Q) : x_V S 33 2 L (st) μ n Q := x_iconst (by decide +kernel) d33_2 h
theorem s33_3 {S : Nat × (Nat → Int32)} {L : List (Option Value)} {st : List Value} {n : Nat} {Q : xQ} {μ : xM} {x : Int32} (h : x_V S 33 4 (L.set 2 (some (.int x))) (st) μ n Q) : x_V S 33 3 L (.int x :: st) μ n Q := x_istore_n d33_3 (by decide) h
theorem s33_4 {S : Nat × (Nat → Int32)} {L : List (Option Value)} {st : List Value} {n : Nat} {Q : xQ} {μ : xM} {x : Int32} (hl : L[2]? = some (some (.int x))) (h : x_V S 33 5 L (.int x :: st) μ n Q) : x_V S 33 4 L (st) μ n Q := x_iload_n d33_4 hl h
theorem s33_5 {S : Nat × (Nat → Int32)} {L : List (Option Value)} {st : List Value} {n : Nat} {Q : xQ} {μ : xM}  (h : x_V S 33 7 L (.int (I 6) :: st) μ n Q) : x_V S 33 5 L (st) μ n Q := x_bipush (by decide +kernel) d33_5 h
theorem s33_7 {S : Nat × (Nat → Int32)} {L : List (Option Value)} {st : List Value} {n : Nat} {Q : xQ} {μ : xM} {x y : Int} (hx : ib x) (hy : ib y) (kt : y ≤ x → x_V S 33 78 L (st) μ n Q) (kf : x < y → x_V S 33 10 L (st) μ n Q) : x_V S 33 7 L (.int (I y) :: .int (I x) :: st) μ n Q := v_icmp_ge d33_7 (by decide) hx hy kt kf
theorem s33_10 {S : Nat × (Nat → Int32)} {L : List (Option Value)} {st : List Value} {n : Nat} {Q : xQ} {μ : xM} {a : Nat} (hl : L[0]? = some (some (.ref a))) (h : x_V S 33 11 L (.ref a :: st) μ n Q) : x_V S 33 10 L (st) μ n Q := x_aload_n d33_10 hl h
theorem s33_10N {S : Nat × (Nat → Int32)} {L : List (Option Value)} {st : List Value} {n : Nat} {Q : xQ} {μ : xM} (hl : L[0]? = some (some .null)) (h : x_V S 33 11 L (.null :: st) μ n Q) : x_V S 33 10 L st μ n Q := x_aload_nN d33_10 hl h
theorem s33_11 {S : Nat × (Nat → Int32)} {L : List (Option Value)} {st : List Value} {n : Nat} {Q : xQ} {g : Nat → Nat → Int} {a : Nat} {v : Value} (hs : x_sh a = (1, 2)) (hp : x_pt a 0 = some v) (h : x_V S 33 14 L (v :: st) (x_vm g) n Q) : x_V S 33 11 L (.ref a :: st) (x_vm g) n Q := v_getp (i := 0) cf1 d33_11 (by decide) w51 hs hp h
theorem s33_14 {S : Nat × (Nat → Int32)} {L : List (Option Value)} {st : List Value} {n : Nat} {Q : xQ} {μ : xM} {a : Nat} (hl : L[0]? = some (some (.ref a))) (h : x_V S 33 15 L (.ref a :: st) μ n Q) : x_V S 33 14 L (st) μ n Q := x_aload_n d33_14 hl h
theorem s33_14N {S : Nat × (Nat → Int32)} {L : List (Option Value)} {st : List Value} {n : Nat} {Q : xQ} {μ : xM} (hl : L[0]? = some (some .null)) (h : x_V S 33 15 L (.null :: st) μ n Q) : x_V S 33 14 L st μ n Q := x_aload_nN d33_14 hl h
theorem s33_15 {S : Nat × (Nat → Int32)} {L : List (Option Value)} {st : List Value} {n : Nat} {Q : xQ} {g : Nat → Nat → Int} {a : Nat} (hs : x_sh a = (1, 2)) (hp : x_pt a 1 = none) (ha : a ≠ x_out) (h : x_V S 33 18 L (.int (I (g a 1)) :: st) (x_vm g) n Q) : x_V S 33 15 L (.ref a :: st) (x_vm g) n Q := v_get (i := 1) cf1 d33_15 (by decide) w53 hs hp ha h
theorem s33_18 {S : Nat × (Nat → Int32)} {L : List (Option Value)} {st : List Value} {n : Nat} {Q : xQ} {μ : xM} {x0 : Int32} {a : Nat} (hs : x_sh a = (2, 2)) (hst : st.length ≤ 4) (h : x_V S 9 0 [some (.ref a), some (.int x0)] [] μ n (x_bk S 33 18 L st Q)) : x_V S 33 18 L (.int x0 :: .ref a :: st) μ n Q := x_callV (k' := 9) (as := [.int x0]) (na := 1) d33_18 ⟨w454, by decide +kernel, by decide, by decide, by decide, by decide, by decide⟩ cf2 w499 w452 w453 (by decide +kernel) rfl hs (fun v hv => by
    simp only [List.mem_cons, List.not_mem_nil, or_false] at hv
    rcases hv with rfl <;> first | rfl | assumption) hst h
theorem s33_21 {S : Nat × (Nat → Int32)} {L : List (Option Value)} {st : List Value} {n : Nat} {Q : xQ} {μ : xM}  (h : x_V S 33 23 L (.int (I 48) :: st) μ n Q) : x_V S 33 21 L (st) μ n Q := x_bipush (by decide +kernel) d33_21 h
theorem s33_23 {S : Nat × (Nat → Int32)} {L : List (Option Value)} {st : List Value} {n : Nat} {Q : xQ} {μ : xM} {x y : Int} (hx : ib x) (hy : ib y) (kt : x < y → x_V S 33 78 L (st) μ n Q) (kf : y ≤ x → x_V S 33 26 L (st) μ n Q) : x_V S 33 23 L (.int (I y) :: .int (I x) :: st) μ n Q := v_icmp_lt d33_23 (by decide) hx hy kt kf
theorem s33_26 {S : Nat × (Nat → Int32)} {L : List (Option Value)} {st : List Value} {n : Nat} {Q : xQ} {μ : xM} {a : Nat} (hl : L[0]? = some (some (.ref a))) (h : x_V S 33 27 L (.ref a :: st) μ n Q) : x_V S 33 26 L (st) μ n Q := x_aload_n d33_26 hl h
theorem s33_26N {S : Nat × (Nat → Int32)} {L : List (Option Value)} {st : List Value} {n : Nat} {Q : xQ} {μ : xM} (hl : L[0]? = some (some .null)) (h : x_V S 33 27 L (.null :: st) μ n Q) : x_V S 33 26 L st μ n Q := x_aload_nN d33_26 hl h
theorem s33_27 {S : Nat × (Nat → Int32)} {L : List (Option Value)} {st : List Value} {n : Nat} {Q : xQ} {g : Nat → Nat → Int} {a : Nat} {v : Value} (hs : x_sh a = (1, 2)) (hp : x_pt a 0 = some v) (h : x_V S 33 30 L (v :: st) (x_vm g) n Q) : x_V S 33 27 L (.ref a :: st) (x_vm g) n Q := v_getp (i := 0) cf1 d33_27 (by decide) w51 hs hp h
theorem s33_30 {S : Nat × (Nat → Int32)} {L : List (Option Value)} {st : List Value} {n : Nat} {Q : xQ} {μ : xM} {a : Nat} (hl : L[0]? = some (some (.ref a))) (h : x_V S 33 31 L (.ref a :: st) μ n Q) : x_V S 33 30 L (st) μ n Q := x_aload_n d33_30 hl h
theorem s33_30N {S : Nat × (Nat → Int32)} {L : List (Option Value)} {st : List Value} {n : Nat} {Q : xQ} {μ : xM} (hl : L[0]? = some (some .null)) (h : x_V S 33 31 L (.null :: st) μ n Q) : x_V S 33 30 L st μ n Q := x_aload_nN d33_30 hl h
theorem s33_31 {S : Nat × (Nat → Int32)} {L : List (Option Value)} {st : List Value} {n : Nat} {Q : xQ} {g : Nat → Nat → Int} {a : Nat} (hs : x_sh a = (1, 2)) (hp : x_pt a 1 = none) (ha : a ≠ x_out) (h : x_V S 33 34 L (.int (I (g a 1)) :: st) (x_vm g) n Q) : x_V S 33 31 L (.ref a :: st) (x_vm g) n Q := v_get (i := 1) cf1 d33_31 (by decide) w53 hs hp ha h
theorem s33_34 {S : Nat × (Nat → Int32)} {L : List (Option Value)} {st : List Value} {n : Nat} {Q : xQ} {μ : xM} {x0 : Int32} {a : Nat} (hs : x_sh a = (2, 2)) (hst : st.length ≤ 4) (h : x_V S 9 0 [some (.ref a), some (.int x0)] [] μ n (x_bk S 33 34 L st Q)) : x_V S 33 34 L (.int x0 :: .ref a :: st) μ n Q := x_callV (k' := 9) (as := [.int x0]) (na := 1) d33_34 ⟨w454, by decide +kernel, by decide, by decide, by decide, by decide, by decide⟩ cf2 w499 w452 w453 (by decide +kernel) rfl hs (fun v hv => by
    simp only [List.mem_cons, List.not_mem_nil, or_false] at hv
    rcases hv with rfl <;> first | rfl | assumption) hst h
theorem s33_37 {S : Nat × (Nat → Int32)} {L : List (Option Value)} {st : List Value} {n : Nat} {Q : xQ} {μ : xM}  (h : x_V S 33 39 L (.int (I 57) :: st) μ n Q) : x_V S 33 37 L (st) μ n Q := x_bipush (by decide +kernel) d33_37 h
theorem s33_39 {S : Nat × (Nat → Int32)} {L : List (Option Value)} {st : List Value} {n : Nat} {Q : xQ} {μ : xM} {x y : Int} (hx : ib x) (hy : ib y) (kt : y < x → x_V S 33 78 L (st) μ n Q) (kf : x ≤ y → x_V S 33 42 L (st) μ n Q) : x_V S 33 39 L (.int (I y) :: .int (I x) :: st) μ n Q := v_icmp_gt d33_39 (by decide) hx hy kt kf
theorem s33_42 {S : Nat × (Nat → Int32)} {L : List (Option Value)} {st : List Value} {n : Nat} {Q : xQ} {μ : xM} {x : Int32} (hl : L[1]? = some (some (.int x))) (h : x_V S 33 43 L (.int x :: st) μ n Q) : x_V S 33 42 L (st) μ n Q := x_iload_n d33_42 hl h
theorem s33_43 {S : Nat × (Nat → Int32)} {L : List (Option Value)} {st : List Value} {n : Nat} {Q : xQ} {μ : xM}  (h : x_V S 33 45 L (.int (I 10) :: st) μ n Q) : x_V S 33 43 L (st) μ n Q := x_bipush (by decide +kernel) d33_43 h
theorem s33_45 {S : Nat × (Nat → Int32)} {L : List (Option Value)} {st : List Value} {n : Nat} {Q : xQ} {μ : xM} {x y : Int} (h : x_V S 33 46 L (.int (I (x * y)) :: st) μ n Q) : x_V S 33 45 L (.int (I y) :: .int (I x) :: st) μ n Q := v_imul d33_45 h
theorem s33_46 {S : Nat × (Nat → Int32)} {L : List (Option Value)} {st : List Value} {n : Nat} {Q : xQ} {μ : xM} {a : Nat} (hl : L[0]? = some (some (.ref a))) (h : x_V S 33 47 L (.ref a :: st) μ n Q) : x_V S 33 46 L (st) μ n Q := x_aload_n d33_46 hl h
theorem s33_46N {S : Nat × (Nat → Int32)} {L : List (Option Value)} {st : List Value} {n : Nat} {Q : xQ} {μ : xM} (hl : L[0]? = some (some .null)) (h : x_V S 33 47 L (.null :: st) μ n Q) : x_V S 33 46 L st μ n Q := x_aload_nN d33_46 hl h
theorem s33_47 {S : Nat × (Nat → Int32)} {L : List (Option Value)} {st : List Value} {n : Nat} {Q : xQ} {g : Nat → Nat → Int} {a : Nat} {v : Value} (hs : x_sh a = (1, 2)) (hp : x_pt a 0 = some v) (h : x_V S 33 50 L (v :: st) (x_vm g) n Q) : x_V S 33 47 L (.ref a :: st) (x_vm g) n Q := v_getp (i := 0) cf1 d33_47 (by decide) w51 hs hp h
theorem s33_50 {S : Nat × (Nat → Int32)} {L : List (Option Value)} {st : List Value} {n : Nat} {Q : xQ} {μ : xM} {a : Nat} (hl : L[0]? = some (some (.ref a))) (h : x_V S 33 51 L (.ref a :: st) μ n Q) : x_V S 33 50 L (st) μ n Q := x_aload_n d33_50 hl h
theorem s33_50N {S : Nat × (Nat → Int32)} {L : List (Option Value)} {st : List Value} {n : Nat} {Q : xQ} {μ : xM} (hl : L[0]? = some (some .null)) (h : x_V S 33 51 L (.null :: st) μ n Q) : x_V S 33 50 L st μ n Q := x_aload_nN d33_50 hl h
theorem s33_51 {S : Nat × (Nat → Int32)} {L : List (Option Value)} {st : List Value} {n : Nat} {Q : xQ} {g : Nat → Nat → Int} {a : Nat} (hs : x_sh a = (1, 2)) (hp : x_pt a 1 = none) (ha : a ≠ x_out) (h : x_V S 33 54 L (.int (I (g a 1)) :: st) (x_vm g) n Q) : x_V S 33 51 L (.ref a :: st) (x_vm g) n Q := v_get (i := 1) cf1 d33_51 (by decide) w53 hs hp ha h
theorem s33_54 {S : Nat × (Nat → Int32)} {L : List (Option Value)} {st : List Value} {n : Nat} {Q : xQ} {μ : xM} {x0 : Int32} {a : Nat} (hs : x_sh a = (2, 2)) (hst : st.length ≤ 4) (h : x_V S 9 0 [some (.ref a), some (.int x0)] [] μ n (x_bk S 33 54 L st Q)) : x_V S 33 54 L (.int x0 :: .ref a :: st) μ n Q := x_callV (k' := 9) (as := [.int x0]) (na := 1) d33_54 ⟨w454, by decide +kernel, by decide, by decide, by decide, by decide, by decide⟩ cf2 w499 w452 w453 (by decide +kernel) rfl hs (fun v hv => by
    simp only [List.mem_cons, List.not_mem_nil, or_false] at hv
    rcases hv with rfl <;> first | rfl | assumption) hst h
theorem s33_57 {S : Nat × (Nat → Int32)} {L : List (Option Value)} {st : List Value} {n : Nat} {Q : xQ} {μ : xM} {x y : Int} (h : x_V S 33 58 L (.int (I (x + y)) :: st) μ n Q) : x_V S 33 57 L (.int (I y) :: .int (I x) :: st) μ n Q := v_iadd d33_57 h
theorem s33_58 {S : Nat × (Nat → Int32)} {L : List (Option Value)} {st : List Value} {n : Nat} {Q : xQ} {μ : xM}  (h : x_V S 33 60 L (.int (I 48) :: st) μ n Q) : x_V S 33 58 L (st) μ n Q := x_bipush (by decide +kernel) d33_58 h
theorem s33_60 {S : Nat × (Nat → Int32)} {L : List (Option Value)} {st : List Value} {n : Nat} {Q : xQ} {μ : xM} {x y : Int} (h : x_V S 33 61 L (.int (I (x - y)) :: st) μ n Q) : x_V S 33 60 L (.int (I y) :: .int (I x) :: st) μ n Q := v_isub d33_60 h
theorem s33_61 {S : Nat × (Nat → Int32)} {L : List (Option Value)} {st : List Value} {n : Nat} {Q : xQ} {μ : xM} {x : Int32} (h : x_V S 33 62 (L.set 1 (some (.int x))) (st) μ n Q) : x_V S 33 61 L (.int x :: st) μ n Q := x_istore_n d33_61 (by decide) h
theorem s33_62 {S : Nat × (Nat → Int32)} {L : List (Option Value)} {st : List Value} {n : Nat} {Q : xQ} {μ : xM} {x : Int} (hl : L[2]? = some (some (.int (I x)))) (h : x_V S 33 65 (L.set 2 (some (.int (I (x + 1))))) (st) μ n Q) : x_V S 33 62 L (st) μ n Q := v_iinc d33_62 hl (by decide) h
theorem s33_65 {S : Nat × (Nat → Int32)} {L : List (Option Value)} {st : List Value} {n : Nat} {Q : xQ} {μ : xM} {a : Nat} (hl : L[0]? = some (some (.ref a))) (h : x_V S 33 66 L (.ref a :: st) μ n Q) : x_V S 33 65 L (st) μ n Q := x_aload_n d33_65 hl h
theorem s33_65N {S : Nat × (Nat → Int32)} {L : List (Option Value)} {st : List Value} {n : Nat} {Q : xQ} {μ : xM} (hl : L[0]? = some (some .null)) (h : x_V S 33 66 L (.null :: st) μ n Q) : x_V S 33 65 L st μ n Q := x_aload_nN d33_65 hl h
theorem s33_66 {S : Nat × (Nat → Int32)} {L : List (Option Value)} {st : List Value} {n : Nat} {Q : xQ} {μ : xM} {v : Value} (hc : v.category = 1) (h : x_V S 33 67 L (v :: v :: st) μ n Q) : x_V S 33 66 L (v :: st) μ n Q := x_dup hc d33_66 h
theorem s33_67 {S : Nat × (Nat → Int32)} {L : List (Option Value)} {st : List Value} {n : Nat} {Q : xQ} {g : Nat → Nat → Int} {a : Nat} (hs : x_sh a = (1, 2)) (hp : x_pt a 1 = none) (ha : a ≠ x_out) (h : x_V S 33 70 L (.int (I (g a 1)) :: st) (x_vm g) n Q) : x_V S 33 67 L (.ref a :: st) (x_vm g) n Q := v_get (i := 1) cf1 d33_67 (by decide) w53 hs hp ha h
theorem s33_70 {S : Nat × (Nat → Int32)} {L : List (Option Value)} {st : List Value} {n : Nat} {Q : xQ} {μ : xM}  (h : x_V S 33 71 L (.int (I 1) :: st) μ n Q) : x_V S 33 70 L (st) μ n Q := x_iconst (by decide +kernel) d33_70 h
theorem s33_71 {S : Nat × (Nat → Int32)} {L : List (Option Value)} {st : List Value} {n : Nat} {Q : xQ} {μ : xM} {x y : Int} (h : x_V S 33 72 L (.int (I (x + y)) :: st) μ n Q) : x_V S 33 71 L (.int (I y) :: .int (I x) :: st) μ n Q := v_iadd d33_71 h
theorem s33_72 {S : Nat × (Nat → Int32)} {L : List (Option Value)} {st : List Value} {n : Nat} {Q : xQ} {g : Nat → Nat → Int} {a : Nat} {x : Int} (hs : x_sh a = (1, 2)) (hp : x_pt a 1 = none) (ha : a ≠ x_out) (h : x_V S 33 75 L (st) (x_vm (x_uf g a 1 x)) n Q) : x_V S 33 72 L (.int (I x) :: .ref a :: st) (x_vm g) n Q := v_put (i := 1) cf1 d33_72 (by decide) rfl w53 hs rfl hp ha h
theorem s33_75 {S : Nat × (Nat → Int32)} {L : List (Option Value)} {st : List Value} {n : Nat} {Q : xQ} {μ : xM}  (h : x_V S 33 4 L (st) μ n Q) : x_V S 33 75 L (st) μ n Q := x_goto (tgt := 4) (by decide) d33_75 h
theorem s33_78 {S : Nat × (Nat → Int32)} {L : List (Option Value)} {st : List Value} {n : Nat} {Q : xQ} {μ : xM} {x : Int32} (hl : L[2]? = some (some (.int x))) (h : x_V S 33 79 L (.int x :: st) μ n Q) : x_V S 33 78 L (st) μ n Q := x_iload_n d33_78 hl h
theorem s33_79 {S : Nat × (Nat → Int32)} {L : List (Option Value)} {st : List Value} {n : Nat} {Q : xQ} {μ : xM} {x : Int} (hx : ib x) (kt : x ≤ 0 → x_V S 33 93 L (st) μ n Q) (kf : 0 < x → x_V S 33 82 L (st) μ n Q) : x_V S 33 79 L (.int (I x) :: st) μ n Q := v_if_le d33_79 (by decide) hx kt kf
theorem s33_82 {S : Nat × (Nat → Int32)} {L : List (Option Value)} {st : List Value} {n : Nat} {Q : xQ} {μ : xM} {a : Nat} (hl : L[0]? = some (some (.ref a))) (h : x_V S 33 83 L (.ref a :: st) μ n Q) : x_V S 33 82 L (st) μ n Q := x_aload_n d33_82 hl h
theorem s33_82N {S : Nat × (Nat → Int32)} {L : List (Option Value)} {st : List Value} {n : Nat} {Q : xQ} {μ : xM} (hl : L[0]? = some (some .null)) (h : x_V S 33 83 L (.null :: st) μ n Q) : x_V S 33 82 L st μ n Q := x_aload_nN d33_82 hl h
theorem s33_83 {S : Nat × (Nat → Int32)} {L : List (Option Value)} {st : List Value} {n : Nat} {Q : xQ} {μ : xM}  {a : Nat} (hs : x_sh a = (1, 2)) (hst : st.length ≤ 4) (h : x_V S 36 0 [some (.ref a), none] [] μ n (x_bk S 33 83 L st Q)) : x_V S 33 83 L (.ref a :: st) μ n Q := x_callV (k' := 36) (as := []) (na := 0) d33_83 ⟨w507, by decide +kernel, by decide, by decide, by decide, by decide, by decide⟩ cf1 w504 w506 wp8 (by decide +kernel) rfl hs (fun v hv => by
    cases hv) hst h
theorem s33_86 {S : Nat × (Nat → Int32)} {L : List (Option Value)} {st : List Value} {n : Nat} {Q : xQ} {μ : xM} {x : Int} (hx : ib x) (kt : x = 0 → x_V S 33 93 L (st) μ n Q) (kf : x ≠ 0 → x_V S 33 89 L (st) μ n Q) : x_V S 33 86 L (.int (I x) :: st) μ n Q := v_if_eq d33_86 (by decide) hx kt kf
theorem s33_89 {S : Nat × (Nat → Int32)} {L : List (Option Value)} {st : List Value} {n : Nat} {Q : xQ} {μ : xM} {x : Int32} (hl : L[1]? = some (some (.int x))) (h : x_V S 33 90 L (.int x :: st) μ n Q) : x_V S 33 89 L (st) μ n Q := x_iload_n d33_89 hl h
theorem s33_90 {S : Nat × (Nat → Int32)} {L : List (Option Value)} {st : List Value} {n : Nat} {Q : xQ} {μ : xM}  (h : x_V S 33 94 L (st) μ n Q) : x_V S 33 90 L (st) μ n Q := x_goto (tgt := 94) (by decide) d33_90 h
theorem s33_93 {S : Nat × (Nat → Int32)} {L : List (Option Value)} {st : List Value} {n : Nat} {Q : xQ} {μ : xM}  (h : x_V S 33 94 L (.int (I (-1)) :: st) μ n Q) : x_V S 33 93 L (st) μ n Q := x_iconst (by decide +kernel) d33_93 h
theorem s33_94 {S : Nat × (Nat → Int32)} {L : List (Option Value)} {st : List Value} {n : Nat} {Q : xQ} {μ : xM} {x : Int32} (h : Q (.inl (some (.int x))) μ n) : x_V S 33 94 L (.int x :: []) μ n Q := x_ireturn d33_94 rfl rfl h
theorem mC_34 : mC 34 = prog_3_method_8_code := rfl
theorem d34_0 : decode (mC 34) 0 = .ok (.aload_n 0, 1) := by rw [mC_34]; decide +kernel
theorem d34_1 : decode (mC 34) 1 = .ok (.getfield 12, 3) := by rw [mC_34]; decide +kernel
theorem d34_4 : decode (mC 34) 4 = .ok (.aload_n 0, 1) := by rw [mC_34]; decide +kernel
theorem d34_5 : decode (mC 34) 5 = .ok (.getfield 18, 3) := by rw [mC_34]; decide +kernel
theorem d34_8 : decode (mC 34) 8 = .ok (.invokevirtual 79, 3) := by rw [mC_34]; decide +kernel
theorem d34_11 : decode (mC 34) 11 = .ok (.istore_n 1, 1) := by rw [mC_34]; decide +kernel
theorem d34_12 : decode (mC 34) 12 = .ok (.aload_n 0, 1) := by rw [mC_34]; decide +kernel
theorem d34_13 : decode (mC 34) 13 = .ok (.dup, 1) := by rw [mC_34]; decide +kernel
theorem d34_14 : decode (mC 34) 14 = .ok (.getfield 18, 3) := by rw [mC_34]; decide +kernel
theorem d34_17 : decode (mC 34) 17 = .ok (.iconst 1, 1) := by rw [mC_34]; decide +kernel
theorem d34_18 : decode (mC 34) 18 = .ok (.iadd, 1) := by rw [mC_34]; decide +kernel
theorem d34_19 : decode (mC 34) 19 = .ok (.putfield 18, 3) := by rw [mC_34]; decide +kernel
theorem d34_22 : decode (mC 34) 22 = .ok (.aload_n 0, 1) := by rw [mC_34]; decide +kernel
theorem d34_23 : decode (mC 34) 23 = .ok (.invokevirtual 81, 3) := by rw [mC_34]; decide +kernel
theorem d34_26 : decode (mC 34) 26 = .ok (.ifCond .eq 7, 3) := by rw [mC_34]; decide +kernel
theorem d34_29 : decode (mC 34) 29 = .ok (.iload_n 1, 1) := by rw [mC_34]; decide +kernel
theorem d34_30 : decode (mC 34) 30 = .ok (.goto 4, 3) := by rw [mC_34]; decide +kernel
theorem d34_33 : decode (mC 34) 33 = .ok (.iconst (-1), 1) := by rw [mC_34]; decide +kernel
theorem d34_34 : decode (mC 34) 34 = .ok (.ireturn, 1) := by rw [mC_34]; decide +kernel
theorem s34_0 {S : Nat × (Nat → Int32)} {L : List (Option Value)} {st : List Value} {n : Nat} {Q : xQ} {μ : xM} {a : Nat} (hl : L[0]? = some (some (.ref a))) (h : x_V S 34 1 L (.ref a :: st) μ n Q) : x_V S 34 0 L (st) μ n Q := x_aload_n d34_0 hl h
theorem s34_0N {S : Nat × (Nat → Int32)} {L : List (Option Value)} {st : List Value} {n : Nat} {Q : xQ} {μ : xM} (hl : L[0]? = some (some .null)) (h : x_V S 34 1 L (.null :: st) μ n Q) : x_V S 34 0 L st μ n Q := x_aload_nN d34_0 hl h
theorem s34_1 {S : Nat × (Nat → Int32)} {L : List (Option Value)} {st : List Value} {n : Nat} {Q : xQ} {g : Nat → Nat → Int} {a : Nat} {v : Value} (hs : x_sh a = (1, 2)) (hp : x_pt a 0 = some v) (h : x_V S 34 4 L (v :: st) (x_vm g) n Q) : x_V S 34 1 L (.ref a :: st) (x_vm g) n Q := v_getp (i := 0) cf1 d34_1 (by decide) w51 hs hp h
theorem s34_4 {S : Nat × (Nat → Int32)} {L : List (Option Value)} {st : List Value} {n : Nat} {Q : xQ} {μ : xM} {a : Nat} (hl : L[0]? = some (some (.ref a))) (h : x_V S 34 5 L (.ref a :: st) μ n Q) : x_V S 34 4 L (st) μ n Q := x_aload_n d34_4 hl h
theorem s34_4N {S : Nat × (Nat → Int32)} {L : List (Option Value)} {st : List Value} {n : Nat} {Q : xQ} {μ : xM} (hl : L[0]? = some (some .null)) (h : x_V S 34 5 L (.null :: st) μ n Q) : x_V S 34 4 L st μ n Q := x_aload_nN d34_4 hl h
theorem s34_5 {S : Nat × (Nat → Int32)} {L : List (Option Value)} {st : List Value} {n : Nat} {Q : xQ} {g : Nat → Nat → Int} {a : Nat} (hs : x_sh a = (1, 2)) (hp : x_pt a 1 = none) (ha : a ≠ x_out) (h : x_V S 34 8 L (.int (I (g a 1)) :: st) (x_vm g) n Q) : x_V S 34 5 L (.ref a :: st) (x_vm g) n Q := v_get (i := 1) cf1 d34_5 (by decide) w53 hs hp ha h
theorem s34_8 {S : Nat × (Nat → Int32)} {L : List (Option Value)} {st : List Value} {n : Nat} {Q : xQ} {μ : xM} {x0 : Int32} {a : Nat} (hs : x_sh a = (2, 2)) (hst : st.length ≤ 4) (h : x_V S 9 0 [some (.ref a), some (.int x0)] [] μ n (x_bk S 34 8 L st Q)) : x_V S 34 8 L (.int x0 :: .ref a :: st) μ n Q := x_callV (k' := 9) (as := [.int x0]) (na := 1) d34_8 ⟨w454, by decide +kernel, by decide, by decide, by decide, by decide, by decide⟩ cf2 w499 w452 w453 (by decide +kernel) rfl hs (fun v hv => by
    simp only [List.mem_cons, List.not_mem_nil, or_false] at hv
    rcases hv with rfl <;> first | rfl | assumption) hst h
theorem s34_11 {S : Nat × (Nat → Int32)} {L : List (Option Value)} {st : List Value} {n : Nat} {Q : xQ} {μ : xM} {x : Int32} (h : x_V S 34 12 (L.set 1 (some (.int x))) (st) μ n Q) : x_V S 34 11 L (.int x :: st) μ n Q := x_istore_n d34_11 (by decide) h
theorem s34_12 {S : Nat × (Nat → Int32)} {L : List (Option Value)} {st : List Value} {n : Nat} {Q : xQ} {μ : xM} {a : Nat} (hl : L[0]? = some (some (.ref a))) (h : x_V S 34 13 L (.ref a :: st) μ n Q) : x_V S 34 12 L (st) μ n Q := x_aload_n d34_12 hl h
theorem s34_12N {S : Nat × (Nat → Int32)} {L : List (Option Value)} {st : List Value} {n : Nat} {Q : xQ} {μ : xM} (hl : L[0]? = some (some .null)) (h : x_V S 34 13 L (.null :: st) μ n Q) : x_V S 34 12 L st μ n Q := x_aload_nN d34_12 hl h
theorem s34_13 {S : Nat × (Nat → Int32)} {L : List (Option Value)} {st : List Value} {n : Nat} {Q : xQ} {μ : xM} {v : Value} (hc : v.category = 1) (h : x_V S 34 14 L (v :: v :: st) μ n Q) : x_V S 34 13 L (v :: st) μ n Q := x_dup hc d34_13 h
theorem s34_14 {S : Nat × (Nat → Int32)} {L : List (Option Value)} {st : List Value} {n : Nat} {Q : xQ} {g : Nat → Nat → Int} {a : Nat} (hs : x_sh a = (1, 2)) (hp : x_pt a 1 = none) (ha : a ≠ x_out) (h : x_V S 34 17 L (.int (I (g a 1)) :: st) (x_vm g) n Q) : x_V S 34 14 L (.ref a :: st) (x_vm g) n Q := v_get (i := 1) cf1 d34_14 (by decide) w53 hs hp ha h
theorem s34_17 {S : Nat × (Nat → Int32)} {L : List (Option Value)} {st : List Value} {n : Nat} {Q : xQ} {μ : xM}  (h : x_V S 34 18 L (.int (I 1) :: st) μ n Q) : x_V S 34 17 L (st) μ n Q := x_iconst (by decide +kernel) d34_17 h
theorem s34_18 {S : Nat × (Nat → Int32)} {L : List (Option Value)} {st : List Value} {n : Nat} {Q : xQ} {μ : xM} {x y : Int} (h : x_V S 34 19 L (.int (I (x + y)) :: st) μ n Q) : x_V S 34 18 L (.int (I y) :: .int (I x) :: st) μ n Q := v_iadd d34_18 h
theorem s34_19 {S : Nat × (Nat → Int32)} {L : List (Option Value)} {st : List Value} {n : Nat} {Q : xQ} {g : Nat → Nat → Int} {a : Nat} {x : Int} (hs : x_sh a = (1, 2)) (hp : x_pt a 1 = none) (ha : a ≠ x_out) (h : x_V S 34 22 L (st) (x_vm (x_uf g a 1 x)) n Q) : x_V S 34 19 L (.int (I x) :: .ref a :: st) (x_vm g) n Q := v_put (i := 1) cf1 d34_19 (by decide) rfl w53 hs rfl hp ha h
theorem s34_22 {S : Nat × (Nat → Int32)} {L : List (Option Value)} {st : List Value} {n : Nat} {Q : xQ} {μ : xM} {a : Nat} (hl : L[0]? = some (some (.ref a))) (h : x_V S 34 23 L (.ref a :: st) μ n Q) : x_V S 34 22 L (st) μ n Q := x_aload_n d34_22 hl h
theorem s34_22N {S : Nat × (Nat → Int32)} {L : List (Option Value)} {st : List Value} {n : Nat} {Q : xQ} {μ : xM} (hl : L[0]? = some (some .null)) (h : x_V S 34 23 L (.null :: st) μ n Q) : x_V S 34 22 L st μ n Q := x_aload_nN d34_22 hl h
theorem s34_23 {S : Nat × (Nat → Int32)} {L : List (Option Value)} {st : List Value} {n : Nat} {Q : xQ} {μ : xM}  {a : Nat} (hs : x_sh a = (1, 2)) (hst : st.length ≤ 4) (h : x_V S 36 0 [some (.ref a), none] [] μ n (x_bk S 34 23 L st Q)) : x_V S 34 23 L (.ref a :: st) μ n Q := x_callV (k' := 36) (as := []) (na := 0) d34_23 ⟨w507, by decide +kernel, by decide, by decide, by decide, by decide, by decide⟩ cf1 w504 w506 wp8 (by decide +kernel) rfl hs (fun v hv => by
    cases hv) hst h
theorem s34_26 {S : Nat × (Nat → Int32)} {L : List (Option Value)} {st : List Value} {n : Nat} {Q : xQ} {μ : xM} {x : Int} (hx : ib x) (kt : x = 0 → x_V S 34 33 L (st) μ n Q) (kf : x ≠ 0 → x_V S 34 29 L (st) μ n Q) : x_V S 34 26 L (.int (I x) :: st) μ n Q := v_if_eq d34_26 (by decide) hx kt kf
theorem s34_29 {S : Nat × (Nat → Int32)} {L : List (Option Value)} {st : List Value} {n : Nat} {Q : xQ} {μ : xM} {x : Int32} (hl : L[1]? = some (some (.int x))) (h : x_V S 34 30 L (.int x :: st) μ n Q) : x_V S 34 29 L (st) μ n Q := x_iload_n d34_29 hl h
theorem s34_30 {S : Nat × (Nat → Int32)} {L : List (Option Value)} {st : List Value} {n : Nat} {Q : xQ} {μ : xM}  (h : x_V S 34 34 L (st) μ n Q) : x_V S 34 30 L (st) μ n Q := x_goto (tgt := 34) (by decide) d34_30 h
theorem s34_33 {S : Nat × (Nat → Int32)} {L : List (Option Value)} {st : List Value} {n : Nat} {Q : xQ} {μ : xM}  (h : x_V S 34 34 L (.int (I (-1)) :: st) μ n Q) : x_V S 34 33 L (st) μ n Q := x_iconst (by decide +kernel) d34_33 h
theorem s34_34 {S : Nat × (Nat → Int32)} {L : List (Option Value)} {st : List Value} {n : Nat} {Q : xQ} {μ : xM} {x : Int32} (h : Q (.inl (some (.int x))) μ n) : x_V S 34 34 L (.int x :: []) μ n Q := x_ireturn d34_34 rfl rfl h
theorem mC_35 : mC 35 = prog_3_method_9_code := rfl
theorem d35_0 : decode (mC 35) 0 = .ok (.aload_n 0, 1) := by rw [mC_35]; decide +kernel
theorem d35_1 : decode (mC 35) 1 = .ok (.invokevirtual 26, 3) := by rw [mC_35]; decide +kernel
theorem d35_4 : decode (mC 35) 4 = .ok (.istore_n 1, 1) := by rw [mC_35]; decide +kernel
theorem d35_5 : decode (mC 35) 5 = .ok (.iload_n 1, 1) := by rw [mC_35]; decide +kernel
theorem d35_6 : decode (mC 35) 6 = .ok (.bipush 89, 2) := by rw [mC_35]; decide +kernel
theorem d35_8 : decode (mC 35) 8 = .ok (.if_icmp .ne 5, 3) := by rw [mC_35]; decide +kernel
theorem d35_11 : decode (mC 35) 11 = .ok (.iconst 1, 1) := by rw [mC_35]; decide +kernel
theorem d35_12 : decode (mC 35) 12 = .ok (.ireturn, 1) := by rw [mC_35]; decide +kernel
theorem d35_13 : decode (mC 35) 13 = .ok (.iload_n 1, 1) := by rw [mC_35]; decide +kernel
theorem d35_14 : decode (mC 35) 14 = .ok (.bipush 78, 2) := by rw [mC_35]; decide +kernel
theorem d35_16 : decode (mC 35) 16 = .ok (.if_icmp .ne 7, 3) := by rw [mC_35]; decide +kernel
theorem d35_19 : decode (mC 35) 19 = .ok (.iconst 0, 1) := by rw [mC_35]; decide +kernel
theorem d35_20 : decode (mC 35) 20 = .ok (.goto 4, 3) := by rw [mC_35]; decide +kernel
theorem d35_23 : decode (mC 35) 23 = .ok (.iconst (-1), 1) := by rw [mC_35]; decide +kernel
theorem d35_24 : decode (mC 35) 24 = .ok (.ireturn, 1) := by rw [mC_35]; decide +kernel
theorem s35_0 {S : Nat × (Nat → Int32)} {L : List (Option Value)} {st : List Value} {n : Nat} {Q : xQ} {μ : xM} {a : Nat} (hl : L[0]? = some (some (.ref a))) (h : x_V S 35 1 L (.ref a :: st) μ n Q) : x_V S 35 0 L (st) μ n Q := x_aload_n d35_0 hl h
theorem s35_0N {S : Nat × (Nat → Int32)} {L : List (Option Value)} {st : List Value} {n : Nat} {Q : xQ} {μ : xM} (hl : L[0]? = some (some .null)) (h : x_V S 35 1 L (.null :: st) μ n Q) : x_V S 35 0 L st μ n Q := x_aload_nN d35_0 hl h
theorem s35_1 {S : Nat × (Nat → Int32)} {L : List (Option Value)} {st : List Value} {n : Nat} {Q : xQ} {μ : xM}  {a : Nat} (hs : x_sh a = (1, 2)) (hst : st.length ≤ 4) (h : x_V S 34 0 [some (.ref a), none] [] μ n (x_bk S 35 1 L st Q)) : x_V S 35 1 L (.ref a :: st) μ n Q := x_callV (k' := 34) (as := []) (na := 0) d35_1 ⟨w503, by decide +kernel, by decide, by decide, by decide, by decide, by decide⟩ cf1 w500 w502 wp7 (by decide +kernel) rfl hs (fun v hv => by
    cases hv) hst h
theorem s35_4 {S : Nat × (Nat → Int32)} {L : List (Option Value)} {st : List Value} {n : Nat} {Q : xQ} {μ : xM} {x : Int32} (h : x_V S 35 5 (L.set 1 (some (.int x))) (st) μ n Q) : x_V S 35 4 L (.int x :: st) μ n Q := x_istore_n d35_4 (by decide) h
theorem s35_5 {S : Nat × (Nat → Int32)} {L : List (Option Value)} {st : List Value} {n : Nat} {Q : xQ} {μ : xM} {x : Int32} (hl : L[1]? = some (some (.int x))) (h : x_V S 35 6 L (.int x :: st) μ n Q) : x_V S 35 5 L (st) μ n Q := x_iload_n d35_5 hl h
theorem s35_6 {S : Nat × (Nat → Int32)} {L : List (Option Value)} {st : List Value} {n : Nat} {Q : xQ} {μ : xM}  (h : x_V S 35 8 L (.int (I 89) :: st) μ n Q) : x_V S 35 6 L (st) μ n Q := x_bipush (by decide +kernel) d35_6 h
theorem s35_8 {S : Nat × (Nat → Int32)} {L : List (Option Value)} {st : List Value} {n : Nat} {Q : xQ} {μ : xM} {x y : Int} (hx : ib x) (hy : ib y) (kt : x ≠ y → x_V S 35 13 L (st) μ n Q) (kf : x = y → x_V S 35 11 L (st) μ n Q) : x_V S 35 8 L (.int (I y) :: .int (I x) :: st) μ n Q := v_icmp_ne d35_8 (by decide) hx hy kt kf
theorem s35_11 {S : Nat × (Nat → Int32)} {L : List (Option Value)} {st : List Value} {n : Nat} {Q : xQ} {μ : xM}  (h : x_V S 35 12 L (.int (I 1) :: st) μ n Q) : x_V S 35 11 L (st) μ n Q := x_iconst (by decide +kernel) d35_11 h
theorem s35_12 {S : Nat × (Nat → Int32)} {L : List (Option Value)} {st : List Value} {n : Nat} {Q : xQ} {μ : xM} {x : Int32} (h : Q (.inl (some (.int x))) μ n) : x_V S 35 12 L (.int x :: []) μ n Q := x_ireturn d35_12 rfl rfl h
theorem s35_13 {S : Nat × (Nat → Int32)} {L : List (Option Value)} {st : List Value} {n : Nat} {Q : xQ} {μ : xM} {x : Int32} (hl : L[1]? = some (some (.int x))) (h : x_V S 35 14 L (.int x :: st) μ n Q) : x_V S 35 13 L (st) μ n Q := x_iload_n d35_13 hl h
theorem s35_14 {S : Nat × (Nat → Int32)} {L : List (Option Value)} {st : List Value} {n : Nat} {Q : xQ} {μ : xM}  (h : x_V S 35 16 L (.int (I 78) :: st) μ n Q) : x_V S 35 14 L (st) μ n Q := x_bipush (by decide +kernel) d35_14 h
theorem s35_16 {S : Nat × (Nat → Int32)} {L : List (Option Value)} {st : List Value} {n : Nat} {Q : xQ} {μ : xM} {x y : Int} (hx : ib x) (hy : ib y) (kt : x ≠ y → x_V S 35 23 L (st) μ n Q) (kf : x = y → x_V S 35 19 L (st) μ n Q) : x_V S 35 16 L (.int (I y) :: .int (I x) :: st) μ n Q := v_icmp_ne d35_16 (by decide) hx hy kt kf
theorem s35_19 {S : Nat × (Nat → Int32)} {L : List (Option Value)} {st : List Value} {n : Nat} {Q : xQ} {μ : xM}  (h : x_V S 35 20 L (.int (I 0) :: st) μ n Q) : x_V S 35 19 L (st) μ n Q := x_iconst (by decide +kernel) d35_19 h
theorem s35_20 {S : Nat × (Nat → Int32)} {L : List (Option Value)} {st : List Value} {n : Nat} {Q : xQ} {μ : xM}  (h : x_V S 35 24 L (st) μ n Q) : x_V S 35 20 L (st) μ n Q := x_goto (tgt := 24) (by decide) d35_20 h
theorem s35_23 {S : Nat × (Nat → Int32)} {L : List (Option Value)} {st : List Value} {n : Nat} {Q : xQ} {μ : xM}  (h : x_V S 35 24 L (.int (I (-1)) :: st) μ n Q) : x_V S 35 23 L (st) μ n Q := x_iconst (by decide +kernel) d35_23 h
theorem s35_24 {S : Nat × (Nat → Int32)} {L : List (Option Value)} {st : List Value} {n : Nat} {Q : xQ} {μ : xM} {x : Int32} (h : Q (.inl (some (.int x))) μ n) : x_V S 35 24 L (.int x :: []) μ n Q := x_ireturn d35_24 rfl rfl h
theorem mC_36 : mC 36 = prog_3_method_10_code := rfl
theorem d36_0 : decode (mC 36) 0 = .ok (.aload_n 0, 1) := by rw [mC_36]; decide +kernel
theorem d36_1 : decode (mC 36) 1 = .ok (.getfield 12, 3) := by rw [mC_36]; decide +kernel
theorem d36_4 : decode (mC 36) 4 = .ok (.aload_n 0, 1) := by rw [mC_36]; decide +kernel
theorem d36_5 : decode (mC 36) 5 = .ok (.getfield 18, 3) := by rw [mC_36]; decide +kernel
theorem d36_8 : decode (mC 36) 8 = .ok (.invokevirtual 79, 3) := by rw [mC_36]; decide +kernel
theorem d36_11 : decode (mC 36) 11 = .ok (.iconst 1, 1) := by rw [mC_36]; decide +kernel
theorem d36_12 : decode (mC 36) 12 = .ok (.if_icmp .ne 7, 3) := by rw [mC_36]; decide +kernel
theorem d36_15 : decode (mC 36) 15 = .ok (.iconst 1, 1) := by rw [mC_36]; decide +kernel
theorem d36_16 : decode (mC 36) 16 = .ok (.goto 4, 3) := by rw [mC_36]; decide +kernel
theorem d36_19 : decode (mC 36) 19 = .ok (.iconst 0, 1) := by rw [mC_36]; decide +kernel
theorem d36_20 : decode (mC 36) 20 = .ok (.istore_n 1, 1) := by rw [mC_36]; decide +kernel
theorem d36_21 : decode (mC 36) 21 = .ok (.aload_n 0, 1) := by rw [mC_36]; decide +kernel
theorem d36_22 : decode (mC 36) 22 = .ok (.dup, 1) := by rw [mC_36]; decide +kernel
theorem d36_23 : decode (mC 36) 23 = .ok (.getfield 18, 3) := by rw [mC_36]; decide +kernel
theorem d36_26 : decode (mC 36) 26 = .ok (.iconst 1, 1) := by rw [mC_36]; decide +kernel
theorem d36_27 : decode (mC 36) 27 = .ok (.iadd, 1) := by rw [mC_36]; decide +kernel
theorem d36_28 : decode (mC 36) 28 = .ok (.putfield 18, 3) := by rw [mC_36]; decide +kernel
theorem d36_31 : decode (mC 36) 31 = .ok (.iload_n 1, 1) := by rw [mC_36]; decide +kernel
theorem d36_32 : decode (mC 36) 32 = .ok (.ireturn, 1) := by rw [mC_36]; decide +kernel
theorem s36_0 {S : Nat × (Nat → Int32)} {L : List (Option Value)} {st : List Value} {n : Nat} {Q : xQ} {μ : xM} {a : Nat} (hl : L[0]? = some (some (.ref a))) (h : x_V S 36 1 L (.ref a :: st) μ n Q) : x_V S 36 0 L (st) μ n Q := x_aload_n d36_0 hl h
theorem s36_0N {S : Nat × (Nat → Int32)} {L : List (Option Value)} {st : List Value} {n : Nat} {Q : xQ} {μ : xM} (hl : L[0]? = some (some .null)) (h : x_V S 36 1 L (.null :: st) μ n Q) : x_V S 36 0 L st μ n Q := x_aload_nN d36_0 hl h
theorem s36_1 {S : Nat × (Nat → Int32)} {L : List (Option Value)} {st : List Value} {n : Nat} {Q : xQ} {g : Nat → Nat → Int} {a : Nat} {v : Value} (hs : x_sh a = (1, 2)) (hp : x_pt a 0 = some v) (h : x_V S 36 4 L (v :: st) (x_vm g) n Q) : x_V S 36 1 L (.ref a :: st) (x_vm g) n Q := v_getp (i := 0) cf1 d36_1 (by decide) w51 hs hp h
theorem s36_4 {S : Nat × (Nat → Int32)} {L : List (Option Value)} {st : List Value} {n : Nat} {Q : xQ} {μ : xM} {a : Nat} (hl : L[0]? = some (some (.ref a))) (h : x_V S 36 5 L (.ref a :: st) μ n Q) : x_V S 36 4 L (st) μ n Q := x_aload_n d36_4 hl h
theorem s36_4N {S : Nat × (Nat → Int32)} {L : List (Option Value)} {st : List Value} {n : Nat} {Q : xQ} {μ : xM} (hl : L[0]? = some (some .null)) (h : x_V S 36 5 L (.null :: st) μ n Q) : x_V S 36 4 L st μ n Q := x_aload_nN d36_4 hl h
theorem s36_5 {S : Nat × (Nat → Int32)} {L : List (Option Value)} {st : List Value} {n : Nat} {Q : xQ} {g : Nat → Nat → Int} {a : Nat} (hs : x_sh a = (1, 2)) (hp : x_pt a 1 = none) (ha : a ≠ x_out) (h : x_V S 36 8 L (.int (I (g a 1)) :: st) (x_vm g) n Q) : x_V S 36 5 L (.ref a :: st) (x_vm g) n Q := v_get (i := 1) cf1 d36_5 (by decide) w53 hs hp ha h
theorem s36_8 {S : Nat × (Nat → Int32)} {L : List (Option Value)} {st : List Value} {n : Nat} {Q : xQ} {μ : xM} {x0 : Int32} {a : Nat} (hs : x_sh a = (2, 2)) (hst : st.length ≤ 4) (h : x_V S 9 0 [some (.ref a), some (.int x0)] [] μ n (x_bk S 36 8 L st Q)) : x_V S 36 8 L (.int x0 :: .ref a :: st) μ n Q := x_callV (k' := 9) (as := [.int x0]) (na := 1) d36_8 ⟨w454, by decide +kernel, by decide, by decide, by decide, by decide, by decide⟩ cf2 w499 w452 w453 (by decide +kernel) rfl hs (fun v hv => by
    simp only [List.mem_cons, List.not_mem_nil, or_false] at hv
    rcases hv with rfl <;> first | rfl | assumption) hst h
theorem s36_11 {S : Nat × (Nat → Int32)} {L : List (Option Value)} {st : List Value} {n : Nat} {Q : xQ} {μ : xM}  (h : x_V S 36 12 L (.int (I 1) :: st) μ n Q) : x_V S 36 11 L (st) μ n Q := x_iconst (by decide +kernel) d36_11 h
theorem s36_12 {S : Nat × (Nat → Int32)} {L : List (Option Value)} {st : List Value} {n : Nat} {Q : xQ} {μ : xM} {x y : Int} (hx : ib x) (hy : ib y) (kt : x ≠ y → x_V S 36 19 L (st) μ n Q) (kf : x = y → x_V S 36 15 L (st) μ n Q) : x_V S 36 12 L (.int (I y) :: .int (I x) :: st) μ n Q := v_icmp_ne d36_12 (by decide) hx hy kt kf
theorem s36_15 {S : Nat × (Nat → Int32)} {L : List (Option Value)} {st : List Value} {n : Nat} {Q : xQ} {μ : xM}  (h : x_V S 36 16 L (.int (I 1) :: st) μ n Q) : x_V S 36 15 L (st) μ n Q := x_iconst (by decide +kernel) d36_15 h
theorem s36_16 {S : Nat × (Nat → Int32)} {L : List (Option Value)} {st : List Value} {n : Nat} {Q : xQ} {μ : xM}  (h : x_V S 36 20 L (st) μ n Q) : x_V S 36 16 L (st) μ n Q := x_goto (tgt := 20) (by decide) d36_16 h
theorem s36_19 {S : Nat × (Nat → Int32)} {L : List (Option Value)} {st : List Value} {n : Nat} {Q : xQ} {μ : xM}  (h : x_V S 36 20 L (.int (I 0) :: st) μ n Q) : x_V S 36 19 L (st) μ n Q := x_iconst (by decide +kernel) d36_19 h
theorem s36_20 {S : Nat × (Nat → Int32)} {L : List (Option Value)} {st : List Value} {n : Nat} {Q : xQ} {μ : xM} {x : Int32} (h : x_V S 36 21 (L.set 1 (some (.int x))) (st) μ n Q) : x_V S 36 20 L (.int x :: st) μ n Q := x_istore_n d36_20 (by decide) h
theorem s36_21 {S : Nat × (Nat → Int32)} {L : List (Option Value)} {st : List Value} {n : Nat} {Q : xQ} {μ : xM} {a : Nat} (hl : L[0]? = some (some (.ref a))) (h : x_V S 36 22 L (.ref a :: st) μ n Q) : x_V S 36 21 L (st) μ n Q := x_aload_n d36_21 hl h
theorem s36_21N {S : Nat × (Nat → Int32)} {L : List (Option Value)} {st : List Value} {n : Nat} {Q : xQ} {μ : xM} (hl : L[0]? = some (some .null)) (h : x_V S 36 22 L (.null :: st) μ n Q) : x_V S 36 21 L st μ n Q := x_aload_nN d36_21 hl h
theorem s36_22 {S : Nat × (Nat → Int32)} {L : List (Option Value)} {st : List Value} {n : Nat} {Q : xQ} {μ : xM} {v : Value} (hc : v.category = 1) (h : x_V S 36 23 L (v :: v :: st) μ n Q) : x_V S 36 22 L (v :: st) μ n Q := x_dup hc d36_22 h
theorem s36_23 {S : Nat × (Nat → Int32)} {L : List (Option Value)} {st : List Value} {n : Nat} {Q : xQ} {g : Nat → Nat → Int} {a : Nat} (hs : x_sh a = (1, 2)) (hp : x_pt a 1 = none) (ha : a ≠ x_out) (h : x_V S 36 26 L (.int (I (g a 1)) :: st) (x_vm g) n Q) : x_V S 36 23 L (.ref a :: st) (x_vm g) n Q := v_get (i := 1) cf1 d36_23 (by decide) w53 hs hp ha h
theorem s36_26 {S : Nat × (Nat → Int32)} {L : List (Option Value)} {st : List Value} {n : Nat} {Q : xQ} {μ : xM}  (h : x_V S 36 27 L (.int (I 1) :: st) μ n Q) : x_V S 36 26 L (st) μ n Q := x_iconst (by decide +kernel) d36_26 h
theorem s36_27 {S : Nat × (Nat → Int32)} {L : List (Option Value)} {st : List Value} {n : Nat} {Q : xQ} {μ : xM} {x y : Int} (h : x_V S 36 28 L (.int (I (x + y)) :: st) μ n Q) : x_V S 36 27 L (.int (I y) :: .int (I x) :: st) μ n Q := v_iadd d36_27 h
theorem s36_28 {S : Nat × (Nat → Int32)} {L : List (Option Value)} {st : List Value} {n : Nat} {Q : xQ} {g : Nat → Nat → Int} {a : Nat} {x : Int} (hs : x_sh a = (1, 2)) (hp : x_pt a 1 = none) (ha : a ≠ x_out) (h : x_V S 36 31 L (st) (x_vm (x_uf g a 1 x)) n Q) : x_V S 36 28 L (.int (I x) :: .ref a :: st) (x_vm g) n Q := v_put (i := 1) cf1 d36_28 (by decide) rfl w53 hs rfl hp ha h
theorem s36_31 {S : Nat × (Nat → Int32)} {L : List (Option Value)} {st : List Value} {n : Nat} {Q : xQ} {μ : xM} {x : Int32} (hl : L[1]? = some (some (.int x))) (h : x_V S 36 32 L (.int x :: st) μ n Q) : x_V S 36 31 L (st) μ n Q := x_iload_n d36_31 hl h
theorem s36_32 {S : Nat × (Nat → Int32)} {L : List (Option Value)} {st : List Value} {n : Nat} {Q : xQ} {μ : xM} {v : Int} (hv : v = 0 ∨ v = 1) (h : Q (.inl (some (.int (I v)))) μ n) : x_V S 36 32 L (.int (I v) :: []) μ n Q := v_zreturn d36_32 rfl hv h
theorem mC_46 : mC 46 = prog_2_method_1_code := rfl
theorem d46_0 : decode (mC 46) 0 = .ok (.aload_n 0, 1) := by rw [mC_46]; decide +kernel
theorem d46_1 : decode (mC 46) 1 = .ok (.invokespecial 3, 3) := by rw [mC_46]; decide +kernel
theorem d46_4 : decode (mC 46) 4 = .ok (.aload_n 0, 1) := by rw [mC_46]; decide +kernel
theorem d46_5 : decode (mC 46) 5 = .ok (.bipush 40, 2) := by rw [mC_46]; decide +kernel
theorem d46_7 : decode (mC 46) 7 = .ok (.anewarray 11, 3) := by rw [mC_46]; decide +kernel
theorem d46_10 : decode (mC 46) 10 = .ok (.putfield 13, 3) := by rw [mC_46]; decide +kernel
theorem d46_13 : decode (mC 46) 13 = .ok (.aload_n 0, 1) := by rw [mC_46]; decide +kernel
theorem d46_14 : decode (mC 46) 14 = .ok (.sipush 512, 3) := by rw [mC_46]; decide +kernel
theorem d46_17 : decode (mC 46) 17 = .ok (.newarray .int, 2) := by rw [mC_46]; decide +kernel
theorem d46_19 : decode (mC 46) 19 = .ok (.putfield 17, 3) := by rw [mC_46]; decide +kernel
theorem d46_22 : decode (mC 46) 22 = .ok (.iconst 0, 1) := by rw [mC_46]; decide +kernel
theorem d46_23 : decode (mC 46) 23 = .ok (.istore_n 1, 1) := by rw [mC_46]; decide +kernel
theorem d46_24 : decode (mC 46) 24 = .ok (.iload_n 1, 1) := by rw [mC_46]; decide +kernel
theorem d46_25 : decode (mC 46) 25 = .ok (.aload_n 0, 1) := by rw [mC_46]; decide +kernel
theorem d46_26 : decode (mC 46) 26 = .ok (.getfield 13, 3) := by rw [mC_46]; decide +kernel
theorem d46_29 : decode (mC 46) 29 = .ok (.arraylength, 1) := by rw [mC_46]; decide +kernel
theorem d46_30 : decode (mC 46) 30 = .ok (.if_icmp .ge 22, 3) := by rw [mC_46]; decide +kernel
theorem d46_33 : decode (mC 46) 33 = .ok (.aload_n 0, 1) := by rw [mC_46]; decide +kernel
theorem d46_34 : decode (mC 46) 34 = .ok (.getfield 13, 3) := by rw [mC_46]; decide +kernel
theorem d46_37 : decode (mC 46) 37 = .ok (.iload_n 1, 1) := by rw [mC_46]; decide +kernel
theorem d46_38 : decode (mC 46) 38 = .ok (.new 11, 3) := by rw [mC_46]; decide +kernel
theorem d46_41 : decode (mC 46) 41 = .ok (.dup, 1) := by rw [mC_46]; decide +kernel
theorem d46_42 : decode (mC 46) 42 = .ok (.invokespecial 21, 3) := by rw [mC_46]; decide +kernel
theorem d46_45 : decode (mC 46) 45 = .ok (.aastore, 1) := by rw [mC_46]; decide +kernel
theorem d46_46 : decode (mC 46) 46 = .ok (.iinc 1 1, 3) := by rw [mC_46]; decide +kernel
theorem d46_49 : decode (mC 46) 49 = .ok (.goto (-25), 3) := by rw [mC_46]; decide +kernel
theorem d46_52 : decode (mC 46) 52 = .ok (.return_, 1) := by rw [mC_46]; decide +kernel
theorem s46_0 {S : Nat × (Nat → Int32)} {L : List (Option Value)} {st : List Value} {n : Nat} {Q : xQ} {μ : xM} {a : Nat} (hl : L[0]? = some (some (.ref a))) (h : x_V S 46 1 L (.ref a :: st) μ n Q) : x_V S 46 0 L (st) μ n Q := x_aload_n d46_0 hl h
theorem s46_0N {S : Nat × (Nat → Int32)} {L : List (Option Value)} {st : List Value} {n : Nat} {Q : xQ} {μ : xM} (hl : L[0]? = some (some .null)) (h : x_V S 46 1 L (.null :: st) μ n Q) : x_V S 46 0 L st μ n Q := x_aload_nN d46_0 hl h
theorem s46_1 {S : Nat × (Nat → Int32)} {L : List (Option Value)} {st : List Value} {n : Nat} {Q : xQ} {μ : xM} {a : Nat} (hst : st.length ≤ 4) (h : x_V S 46 4 L (st) μ n Q) : x_V S 46 1 L (.ref a :: st) μ n Q := x_objInit d46_1 w119 w26 w27 ⟨by decide, by decide⟩ hst h
theorem s46_4 {S : Nat × (Nat → Int32)} {L : List (Option Value)} {st : List Value} {n : Nat} {Q : xQ} {μ : xM} {a : Nat} (hl : L[0]? = some (some (.ref a))) (h : x_V S 46 5 L (.ref a :: st) μ n Q) : x_V S 46 4 L (st) μ n Q := x_aload_n d46_4 hl h
theorem s46_4N {S : Nat × (Nat → Int32)} {L : List (Option Value)} {st : List Value} {n : Nat} {Q : xQ} {μ : xM} (hl : L[0]? = some (some .null)) (h : x_V S 46 5 L (.null :: st) μ n Q) : x_V S 46 4 L st μ n Q := x_aload_nN d46_4 hl h
theorem s46_5 {S : Nat × (Nat → Int32)} {L : List (Option Value)} {st : List Value} {n : Nat} {Q : xQ} {μ : xM}  (h : x_V S 46 7 L (.int (I 40) :: st) μ n Q) : x_V S 46 5 L (st) μ n Q := x_bipush (by decide +kernel) d46_5 h
theorem s46_7 {S : Nat × (Nat → Int32)} {L : List (Option Value)} {st : List Value} {n : Nat} {Q : xQ} {μ : xM} {N : Nat} {i : Int32} (hs : x_sh n = (104, N)) (hi : ¬ i < 0) (hN : i.toNatClampNeg = N) (hb : N ≤ 8000) (hn : n < x_NM) (h : x_V S 46 10 L (.ref n :: st) (x_nw μ n (fun _ => .null)) (n + 1) Q) : x_V S 46 7 L (.int i :: st) μ n Q := x_anew (kd := 104) d46_7 w120 w121 rfl (by decide) hs hi hN (by omega) hn h
theorem s46_10 {S : Nat × (Nat → Int32)} {L : List (Option Value)} {st : List Value} {n : Nat} {Q : xQ} {μ : xM} {a b : Nat} (hs : x_sh a = (6, 4)) (h : x_V S 46 13 L (st) (x_up μ a 0 (.ref b)) n Q) : x_V S 46 10 L (.ref b :: .ref a :: st) μ n Q := x_putF (i := 0) cf6 d46_10 (by decide) rfl rfl rfl w150 hs (fun _ => ⟨rfl, rfl⟩) h
theorem s46_13 {S : Nat × (Nat → Int32)} {L : List (Option Value)} {st : List Value} {n : Nat} {Q : xQ} {μ : xM} {a : Nat} (hl : L[0]? = some (some (.ref a))) (h : x_V S 46 14 L (.ref a :: st) μ n Q) : x_V S 46 13 L (st) μ n Q := x_aload_n d46_13 hl h
theorem s46_13N {S : Nat × (Nat → Int32)} {L : List (Option Value)} {st : List Value} {n : Nat} {Q : xQ} {μ : xM} (hl : L[0]? = some (some .null)) (h : x_V S 46 14 L (.null :: st) μ n Q) : x_V S 46 13 L st μ n Q := x_aload_nN d46_13 hl h
theorem s46_14 {S : Nat × (Nat → Int32)} {L : List (Option Value)} {st : List Value} {n : Nat} {Q : xQ} {μ : xM}  (h : x_V S 46 17 L (.int (I 512) :: st) μ n Q) : x_V S 46 14 L (st) μ n Q := x_sipush (by decide +kernel) d46_14 h
theorem s46_17 {S : Nat × (Nat → Int32)} {L : List (Option Value)} {st : List Value} {n : Nat} {Q : xQ} {μ : xM} {N : Nat} {i : Int32} (hs : x_sh n = (100, N)) (hi : ¬ i < 0) (hN : i.toNatClampNeg = N) (hb : N ≤ 8000) (hn : n < x_NM) (h : x_V S 46 19 L (.ref n :: st) (x_nw μ n (fun _ => defaultValue (x_ty 100))) (n + 1) Q) : x_V S 46 17 L (.int i :: st) μ n Q := x_newa (kd := 100) d46_17 w50 rfl (by decide) hs hi hN (Nat.le_trans (Nat.mul_le_mul_right _ hb) (by decide)) hn h
theorem s46_19 {S : Nat × (Nat → Int32)} {L : List (Option Value)} {st : List Value} {n : Nat} {Q : xQ} {μ : xM} {a b : Nat} (hs : x_sh a = (6, 4)) (h : x_V S 46 22 L (st) (x_up μ a 2 (.ref b)) n Q) : x_V S 46 19 L (.ref b :: .ref a :: st) μ n Q := x_putF (i := 2) cf6 d46_19 (by decide) rfl rfl rfl w153 hs (fun _ => ⟨rfl, rfl⟩) h
theorem s46_22 {S : Nat × (Nat → Int32)} {L : List (Option Value)} {st : List Value} {n : Nat} {Q : xQ} {μ : xM}  (h : x_V S 46 23 L (.int (I 0) :: st) μ n Q) : x_V S 46 22 L (st) μ n Q := x_iconst (by decide +kernel) d46_22 h
theorem s46_23 {S : Nat × (Nat → Int32)} {L : List (Option Value)} {st : List Value} {n : Nat} {Q : xQ} {μ : xM} {x : Int32} (h : x_V S 46 24 (L.set 1 (some (.int x))) (st) μ n Q) : x_V S 46 23 L (.int x :: st) μ n Q := x_istore_n d46_23 (by decide) h
theorem s46_24 {S : Nat × (Nat → Int32)} {L : List (Option Value)} {st : List Value} {n : Nat} {Q : xQ} {μ : xM} {x : Int32} (hl : L[1]? = some (some (.int x))) (h : x_V S 46 25 L (.int x :: st) μ n Q) : x_V S 46 24 L (st) μ n Q := x_iload_n d46_24 hl h
theorem s46_25 {S : Nat × (Nat → Int32)} {L : List (Option Value)} {st : List Value} {n : Nat} {Q : xQ} {μ : xM} {a : Nat} (hl : L[0]? = some (some (.ref a))) (h : x_V S 46 26 L (.ref a :: st) μ n Q) : x_V S 46 25 L (st) μ n Q := x_aload_n d46_25 hl h
theorem s46_25N {S : Nat × (Nat → Int32)} {L : List (Option Value)} {st : List Value} {n : Nat} {Q : xQ} {μ : xM} (hl : L[0]? = some (some .null)) (h : x_V S 46 26 L (.null :: st) μ n Q) : x_V S 46 25 L st μ n Q := x_aload_nN d46_25 hl h
theorem s46_26 {S : Nat × (Nat → Int32)} {L : List (Option Value)} {st : List Value} {n : Nat} {Q : xQ} {μ : xM} {a : Nat} (hs : x_sh a = (6, 4)) (h : x_V S 46 29 L (μ a 0 :: st) μ n Q) : x_V S 46 26 L (.ref a :: st) μ n Q := x_get (i := 0) cf6 d46_26 (by decide) w150 hs h
theorem s46_30 {S : Nat × (Nat → Int32)} {L : List (Option Value)} {st : List Value} {n : Nat} {Q : xQ} {μ : xM} {x y : Int} (hx : ib x) (hy : ib y) (kt : y ≤ x → x_V S 46 52 L (st) μ n Q) (kf : x < y → x_V S 46 33 L (st) μ n Q) : x_V S 46 30 L (.int (I y) :: .int (I x) :: st) μ n Q := v_icmp_ge d46_30 (by decide) hx hy kt kf
theorem s46_33 {S : Nat × (Nat → Int32)} {L : List (Option Value)} {st : List Value} {n : Nat} {Q : xQ} {μ : xM} {a : Nat} (hl : L[0]? = some (some (.ref a))) (h : x_V S 46 34 L (.ref a :: st) μ n Q) : x_V S 46 33 L (st) μ n Q := x_aload_n d46_33 hl h
theorem s46_33N {S : Nat × (Nat → Int32)} {L : List (Option Value)} {st : List Value} {n : Nat} {Q : xQ} {μ : xM} (hl : L[0]? = some (some .null)) (h : x_V S 46 34 L (.null :: st) μ n Q) : x_V S 46 33 L st μ n Q := x_aload_nN d46_33 hl h
theorem s46_34 {S : Nat × (Nat → Int32)} {L : List (Option Value)} {st : List Value} {n : Nat} {Q : xQ} {μ : xM} {a : Nat} (hs : x_sh a = (6, 4)) (h : x_V S 46 37 L (μ a 0 :: st) μ n Q) : x_V S 46 34 L (.ref a :: st) μ n Q := x_get (i := 0) cf6 d46_34 (by decide) w150 hs h
theorem s46_37 {S : Nat × (Nat → Int32)} {L : List (Option Value)} {st : List Value} {n : Nat} {Q : xQ} {μ : xM} {x : Int32} (hl : L[1]? = some (some (.int x))) (h : x_V S 46 38 L (.int x :: st) μ n Q) : x_V S 46 37 L (st) μ n Q := x_iload_n d46_37 hl h
theorem s46_38 {S : Nat × (Nat → Int32)} {L : List (Option Value)} {st : List Value} {n : Nat} {Q : xQ} {μ : xM}  (hs : x_sh n = (7, 5)) (hn : n < x_NM) (h : x_V S 46 41 L (.ref n :: st) (x_nw μ n (fun i => defaultValue (xt7 i))) (n + 1) Q) : x_V S 46 38 L (st) μ n Q := x_new cf7 d46_38 w120 hs hn h
theorem s46_41 {S : Nat × (Nat → Int32)} {L : List (Option Value)} {st : List Value} {n : Nat} {Q : xQ} {μ : xM} {v : Value} (hc : v.category = 1) (h : x_V S 46 42 L (v :: v :: st) μ n Q) : x_V S 46 41 L (v :: st) μ n Q := x_dup hc d46_41 h
theorem s46_42 {S : Nat × (Nat → Int32)} {L : List (Option Value)} {st : List Value} {n : Nat} {Q : xQ} {μ : xM}  {a : Nat} (hst : st.length ≤ 4) (h : x_V S 17 0 [some (.ref a)] [] μ n (x_bk S 46 42 L st Q)) : x_V S 46 42 L (.ref a :: st) μ n Q := x_callIN (k' := 17) (as := []) (na := 0) d46_42 ⟨w125, by decide +kernel, by decide, by decide, by decide, by decide, by decide⟩ rfl rfl rfl w123 w124 (by decide +kernel) rfl (fun v hv => by
    cases hv) hst h
theorem s46_46 {S : Nat × (Nat → Int32)} {L : List (Option Value)} {st : List Value} {n : Nat} {Q : xQ} {μ : xM} {x : Int} (hl : L[1]? = some (some (.int (I x)))) (h : x_V S 46 49 (L.set 1 (some (.int (I (x + 1))))) (st) μ n Q) : x_V S 46 46 L (st) μ n Q := v_iinc d46_46 hl (by decide) h
theorem s46_49 {S : Nat × (Nat → Int32)} {L : List (Option Value)} {st : List Value} {n : Nat} {Q : xQ} {μ : xM}  (h : x_V S 46 24 L (st) μ n Q) : x_V S 46 49 L (st) μ n Q := x_goto (tgt := 24) (by decide) d46_49 h
theorem s46_52 {S : Nat × (Nat → Int32)} {L : List (Option Value)} {st : List Value} {n : Nat} {Q : xQ} {μ : xM}  (h : Q (.inl none) μ n) : x_V S 46 52 L ([]) μ n Q := x_return d46_52 rfl h
theorem mC_47 : mC 47 = prog_2_method_2_code := rfl
theorem d47_0 : decode (mC 47) 0 = .ok (.iconst 0, 1) := by rw [mC_47]; decide +kernel
theorem d47_1 : decode (mC 47) 1 = .ok (.istore_n 2, 1) := by rw [mC_47]; decide +kernel
theorem d47_2 : decode (mC 47) 2 = .ok (.iload_n 2, 1) := by rw [mC_47]; decide +kernel
theorem d47_3 : decode (mC 47) 3 = .ok (.aload_n 0, 1) := by rw [mC_47]; decide +kernel
theorem d47_4 : decode (mC 47) 4 = .ok (.getfield 22, 3) := by rw [mC_47]; decide +kernel
theorem d47_7 : decode (mC 47) 7 = .ok (.if_icmp .ge 38, 3) := by rw [mC_47]; decide +kernel
theorem d47_10 : decode (mC 47) 10 = .ok (.iload_n 2, 1) := by rw [mC_47]; decide +kernel
theorem d47_11 : decode (mC 47) 11 = .ok (.aload_n 0, 1) := by rw [mC_47]; decide +kernel
theorem d47_12 : decode (mC 47) 12 = .ok (.getfield 13, 3) := by rw [mC_47]; decide +kernel
theorem d47_15 : decode (mC 47) 15 = .ok (.arraylength, 1) := by rw [mC_47]; decide +kernel
theorem d47_16 : decode (mC 47) 16 = .ok (.if_icmp .ge 29, 3) := by rw [mC_47]; decide +kernel
theorem d47_19 : decode (mC 47) 19 = .ok (.aload_n 0, 1) := by rw [mC_47]; decide +kernel
theorem d47_20 : decode (mC 47) 20 = .ok (.getfield 13, 3) := by rw [mC_47]; decide +kernel
theorem d47_23 : decode (mC 47) 23 = .ok (.iload_n 2, 1) := by rw [mC_47]; decide +kernel
theorem d47_24 : decode (mC 47) 24 = .ok (.aaload, 1) := by rw [mC_47]; decide +kernel
theorem d47_25 : decode (mC 47) 25 = .ok (.getfield 26, 3) := by rw [mC_47]; decide +kernel
theorem d47_28 : decode (mC 47) 28 = .ok (.iload_n 1, 1) := by rw [mC_47]; decide +kernel
theorem d47_29 : decode (mC 47) 29 = .ok (.if_icmp .ne 10, 3) := by rw [mC_47]; decide +kernel
theorem d47_32 : decode (mC 47) 32 = .ok (.aload_n 0, 1) := by rw [mC_47]; decide +kernel
theorem d47_33 : decode (mC 47) 33 = .ok (.getfield 13, 3) := by rw [mC_47]; decide +kernel
theorem d47_36 : decode (mC 47) 36 = .ok (.iload_n 2, 1) := by rw [mC_47]; decide +kernel
theorem d47_37 : decode (mC 47) 37 = .ok (.aaload, 1) := by rw [mC_47]; decide +kernel
theorem d47_38 : decode (mC 47) 38 = .ok (.areturn, 1) := by rw [mC_47]; decide +kernel
theorem d47_39 : decode (mC 47) 39 = .ok (.iinc 2 1, 3) := by rw [mC_47]; decide +kernel
theorem d47_42 : decode (mC 47) 42 = .ok (.goto (-40), 3) := by rw [mC_47]; decide +kernel
theorem d47_45 : decode (mC 47) 45 = .ok (.aconst_null, 1) := by rw [mC_47]; decide +kernel
theorem d47_46 : decode (mC 47) 46 = .ok (.areturn, 1) := by rw [mC_47]; decide +kernel
theorem s47_0 {S : Nat × (Nat → Int32)} {L : List (Option Value)} {st : List Value} {n : Nat} {Q : xQ} {μ : xM}  (h : x_V S 47 1 L (.int (I 0) :: st) μ n Q) : x_V S 47 0 L (st) μ n Q := x_iconst (by decide +kernel) d47_0 h
theorem s47_1 {S : Nat × (Nat → Int32)} {L : List (Option Value)} {st : List Value} {n : Nat} {Q : xQ} {μ : xM} {x : Int32} (h : x_V S 47 2 (L.set 2 (some (.int x))) (st) μ n Q) : x_V S 47 1 L (.int x :: st) μ n Q := x_istore_n d47_1 (by decide) h
theorem s47_2 {S : Nat × (Nat → Int32)} {L : List (Option Value)} {st : List Value} {n : Nat} {Q : xQ} {μ : xM} {x : Int32} (hl : L[2]? = some (some (.int x))) (h : x_V S 47 3 L (.int x :: st) μ n Q) : x_V S 47 2 L (st) μ n Q := x_iload_n d47_2 hl h
theorem s47_3 {S : Nat × (Nat → Int32)} {L : List (Option Value)} {st : List Value} {n : Nat} {Q : xQ} {μ : xM} {a : Nat} (hl : L[0]? = some (some (.ref a))) (h : x_V S 47 4 L (.ref a :: st) μ n Q) : x_V S 47 3 L (st) μ n Q := x_aload_n d47_3 hl h
theorem s47_3N {S : Nat × (Nat → Int32)} {L : List (Option Value)} {st : List Value} {n : Nat} {Q : xQ} {μ : xM} (hl : L[0]? = some (some .null)) (h : x_V S 47 4 L (.null :: st) μ n Q) : x_V S 47 3 L st μ n Q := x_aload_nN d47_3 hl h
theorem s47_4 {S : Nat × (Nat → Int32)} {L : List (Option Value)} {st : List Value} {n : Nat} {Q : xQ} {g : Nat → Nat → Int} {a : Nat} (hs : x_sh a = (6, 4)) (hp : x_pt a 1 = none) (ha : a ≠ x_out) (h : x_V S 47 7 L (.int (I (g a 1)) :: st) (x_vm g) n Q) : x_V S 47 4 L (.ref a :: st) (x_vm g) n Q := v_get (i := 1) cf6 d47_4 (by decide) w151 hs hp ha h
theorem s47_7 {S : Nat × (Nat → Int32)} {L : List (Option Value)} {st : List Value} {n : Nat} {Q : xQ} {μ : xM} {x y : Int} (hx : ib x) (hy : ib y) (kt : y ≤ x → x_V S 47 45 L (st) μ n Q) (kf : x < y → x_V S 47 10 L (st) μ n Q) : x_V S 47 7 L (.int (I y) :: .int (I x) :: st) μ n Q := v_icmp_ge d47_7 (by decide) hx hy kt kf
theorem s47_10 {S : Nat × (Nat → Int32)} {L : List (Option Value)} {st : List Value} {n : Nat} {Q : xQ} {μ : xM} {x : Int32} (hl : L[2]? = some (some (.int x))) (h : x_V S 47 11 L (.int x :: st) μ n Q) : x_V S 47 10 L (st) μ n Q := x_iload_n d47_10 hl h
theorem s47_11 {S : Nat × (Nat → Int32)} {L : List (Option Value)} {st : List Value} {n : Nat} {Q : xQ} {μ : xM} {a : Nat} (hl : L[0]? = some (some (.ref a))) (h : x_V S 47 12 L (.ref a :: st) μ n Q) : x_V S 47 11 L (st) μ n Q := x_aload_n d47_11 hl h
theorem s47_11N {S : Nat × (Nat → Int32)} {L : List (Option Value)} {st : List Value} {n : Nat} {Q : xQ} {μ : xM} (hl : L[0]? = some (some .null)) (h : x_V S 47 12 L (.null :: st) μ n Q) : x_V S 47 11 L st μ n Q := x_aload_nN d47_11 hl h
theorem s47_12 {S : Nat × (Nat → Int32)} {L : List (Option Value)} {st : List Value} {n : Nat} {Q : xQ} {g : Nat → Nat → Int} {a : Nat} {v : Value} (hs : x_sh a = (6, 4)) (hp : x_pt a 0 = some v) (h : x_V S 47 15 L (v :: st) (x_vm g) n Q) : x_V S 47 12 L (.ref a :: st) (x_vm g) n Q := v_getp (i := 0) cf6 d47_12 (by decide) w150 hs hp h
theorem s47_16 {S : Nat × (Nat → Int32)} {L : List (Option Value)} {st : List Value} {n : Nat} {Q : xQ} {μ : xM} {x y : Int} (hx : ib x) (hy : ib y) (kt : y ≤ x → x_V S 47 45 L (st) μ n Q) (kf : x < y → x_V S 47 19 L (st) μ n Q) : x_V S 47 16 L (.int (I y) :: .int (I x) :: st) μ n Q := v_icmp_ge d47_16 (by decide) hx hy kt kf
theorem s47_19 {S : Nat × (Nat → Int32)} {L : List (Option Value)} {st : List Value} {n : Nat} {Q : xQ} {μ : xM} {a : Nat} (hl : L[0]? = some (some (.ref a))) (h : x_V S 47 20 L (.ref a :: st) μ n Q) : x_V S 47 19 L (st) μ n Q := x_aload_n d47_19 hl h
theorem s47_19N {S : Nat × (Nat → Int32)} {L : List (Option Value)} {st : List Value} {n : Nat} {Q : xQ} {μ : xM} (hl : L[0]? = some (some .null)) (h : x_V S 47 20 L (.null :: st) μ n Q) : x_V S 47 19 L st μ n Q := x_aload_nN d47_19 hl h
theorem s47_20 {S : Nat × (Nat → Int32)} {L : List (Option Value)} {st : List Value} {n : Nat} {Q : xQ} {g : Nat → Nat → Int} {a : Nat} {v : Value} (hs : x_sh a = (6, 4)) (hp : x_pt a 0 = some v) (h : x_V S 47 23 L (v :: st) (x_vm g) n Q) : x_V S 47 20 L (.ref a :: st) (x_vm g) n Q := v_getp (i := 0) cf6 d47_20 (by decide) w150 hs hp h
theorem s47_23 {S : Nat × (Nat → Int32)} {L : List (Option Value)} {st : List Value} {n : Nat} {Q : xQ} {μ : xM} {x : Int32} (hl : L[2]? = some (some (.int x))) (h : x_V S 47 24 L (.int x :: st) μ n Q) : x_V S 47 23 L (st) μ n Q := x_iload_n d47_23 hl h
theorem s47_25 {S : Nat × (Nat → Int32)} {L : List (Option Value)} {st : List Value} {n : Nat} {Q : xQ} {g : Nat → Nat → Int} {a : Nat} (hs : x_sh a = (7, 5)) (hp : x_pt a 0 = none) (ha : a ≠ x_out) (h : x_V S 47 28 L (.int (I (g a 0)) :: st) (x_vm g) n Q) : x_V S 47 25 L (.ref a :: st) (x_vm g) n Q := v_get (i := 0) cf7 d47_25 (by decide) w127 hs hp ha h
theorem s47_28 {S : Nat × (Nat → Int32)} {L : List (Option Value)} {st : List Value} {n : Nat} {Q : xQ} {μ : xM} {x : Int32} (hl : L[1]? = some (some (.int x))) (h : x_V S 47 29 L (.int x :: st) μ n Q) : x_V S 47 28 L (st) μ n Q := x_iload_n d47_28 hl h
theorem s47_29 {S : Nat × (Nat → Int32)} {L : List (Option Value)} {st : List Value} {n : Nat} {Q : xQ} {μ : xM} {x y : Int} (hx : ib x) (hy : ib y) (kt : x ≠ y → x_V S 47 39 L (st) μ n Q) (kf : x = y → x_V S 47 32 L (st) μ n Q) : x_V S 47 29 L (.int (I y) :: .int (I x) :: st) μ n Q := v_icmp_ne d47_29 (by decide) hx hy kt kf
theorem s47_32 {S : Nat × (Nat → Int32)} {L : List (Option Value)} {st : List Value} {n : Nat} {Q : xQ} {μ : xM} {a : Nat} (hl : L[0]? = some (some (.ref a))) (h : x_V S 47 33 L (.ref a :: st) μ n Q) : x_V S 47 32 L (st) μ n Q := x_aload_n d47_32 hl h
theorem s47_32N {S : Nat × (Nat → Int32)} {L : List (Option Value)} {st : List Value} {n : Nat} {Q : xQ} {μ : xM} (hl : L[0]? = some (some .null)) (h : x_V S 47 33 L (.null :: st) μ n Q) : x_V S 47 32 L st μ n Q := x_aload_nN d47_32 hl h
theorem s47_33 {S : Nat × (Nat → Int32)} {L : List (Option Value)} {st : List Value} {n : Nat} {Q : xQ} {g : Nat → Nat → Int} {a : Nat} {v : Value} (hs : x_sh a = (6, 4)) (hp : x_pt a 0 = some v) (h : x_V S 47 36 L (v :: st) (x_vm g) n Q) : x_V S 47 33 L (.ref a :: st) (x_vm g) n Q := v_getp (i := 0) cf6 d47_33 (by decide) w150 hs hp h
theorem s47_36 {S : Nat × (Nat → Int32)} {L : List (Option Value)} {st : List Value} {n : Nat} {Q : xQ} {μ : xM} {x : Int32} (hl : L[2]? = some (some (.int x))) (h : x_V S 47 37 L (.int x :: st) μ n Q) : x_V S 47 36 L (st) μ n Q := x_iload_n d47_36 hl h
theorem s47_38 {S : Nat × (Nat → Int32)} {L : List (Option Value)} {st : List Value} {n : Nat} {Q : xQ} {μ : xM} {v : Value} (hv : v = .null ∨ ∃ a, v = .ref a) (h : Q (.inl (some v)) μ n) : x_V S 47 38 L (v :: []) μ n Q := x_areturn d47_38 rfl (Or.inl ⟨_, rfl⟩) hv h
theorem s47_39 {S : Nat × (Nat → Int32)} {L : List (Option Value)} {st : List Value} {n : Nat} {Q : xQ} {μ : xM} {x : Int} (hl : L[2]? = some (some (.int (I x)))) (h : x_V S 47 42 (L.set 2 (some (.int (I (x + 1))))) (st) μ n Q) : x_V S 47 39 L (st) μ n Q := v_iinc d47_39 hl (by decide) h
theorem s47_42 {S : Nat × (Nat → Int32)} {L : List (Option Value)} {st : List Value} {n : Nat} {Q : xQ} {μ : xM}  (h : x_V S 47 2 L (st) μ n Q) : x_V S 47 42 L (st) μ n Q := x_goto (tgt := 2) (by decide) d47_42 h
theorem s47_45 {S : Nat × (Nat → Int32)} {L : List (Option Value)} {st : List Value} {n : Nat} {Q : xQ} {μ : xM}  (h : x_V S 47 46 L (.null :: st) μ n Q) : x_V S 47 45 L (st) μ n Q := x_null d47_45 h
theorem s47_46 {S : Nat × (Nat → Int32)} {L : List (Option Value)} {st : List Value} {n : Nat} {Q : xQ} {μ : xM} {v : Value} (hv : v = .null ∨ ∃ a, v = .ref a) (h : Q (.inl (some v)) μ n) : x_V S 47 46 L (v :: []) μ n Q := x_areturn d47_46 rfl (Or.inl ⟨_, rfl⟩) hv h
theorem mC_48 : mC 48 = prog_2_method_3_code := rfl
theorem d48_0 : decode (mC 48) 0 = .ok (.aload_n 0, 1) := by rw [mC_48]; decide +kernel
theorem d48_1 : decode (mC 48) 1 = .ok (.iload_n 1, 1) := by rw [mC_48]; decide +kernel
theorem d48_2 : decode (mC 48) 2 = .ok (.invokevirtual 29, 3) := by rw [mC_48]; decide +kernel
theorem d48_5 : decode (mC 48) 5 = .ok (.astore_n 2, 1) := by rw [mC_48]; decide +kernel
theorem d48_6 : decode (mC 48) 6 = .ok (.aload_n 2, 1) := by rw [mC_48]; decide +kernel
theorem d48_7 : decode (mC 48) 7 = .ok (.ifnull 14, 3) := by rw [mC_48]; decide +kernel
theorem d48_10 : decode (mC 48) 10 = .ok (.aload_n 2, 1) := by rw [mC_48]; decide +kernel
theorem d48_11 : decode (mC 48) 11 = .ok (.invokevirtual 33, 3) := by rw [mC_48]; decide +kernel
theorem d48_14 : decode (mC 48) 14 = .ok (.ifCond .eq 7, 3) := by rw [mC_48]; decide +kernel
theorem d48_17 : decode (mC 48) 17 = .ok (.aload_n 2, 1) := by rw [mC_48]; decide +kernel
theorem d48_18 : decode (mC 48) 18 = .ok (.goto 4, 3) := by rw [mC_48]; decide +kernel
theorem d48_21 : decode (mC 48) 21 = .ok (.aconst_null, 1) := by rw [mC_48]; decide +kernel
theorem d48_22 : decode (mC 48) 22 = .ok (.areturn, 1) := by rw [mC_48]; decide +kernel
theorem s48_0 {S : Nat × (Nat → Int32)} {L : List (Option Value)} {st : List Value} {n : Nat} {Q : xQ} {μ : xM} {a : Nat} (hl : L[0]? = some (some (.ref a))) (h : x_V S 48 1 L (.ref a :: st) μ n Q) : x_V S 48 0 L (st) μ n Q := x_aload_n d48_0 hl h
theorem s48_0N {S : Nat × (Nat → Int32)} {L : List (Option Value)} {st : List Value} {n : Nat} {Q : xQ} {μ : xM} (hl : L[0]? = some (some .null)) (h : x_V S 48 1 L (.null :: st) μ n Q) : x_V S 48 0 L st μ n Q := x_aload_nN d48_0 hl h
theorem s48_1 {S : Nat × (Nat → Int32)} {L : List (Option Value)} {st : List Value} {n : Nat} {Q : xQ} {μ : xM} {x : Int32} (hl : L[1]? = some (some (.int x))) (h : x_V S 48 2 L (.int x :: st) μ n Q) : x_V S 48 1 L (st) μ n Q := x_iload_n d48_1 hl h
theorem s48_2 {S : Nat × (Nat → Int32)} {L : List (Option Value)} {st : List Value} {n : Nat} {Q : xQ} {μ : xM} {x0 : Int32} {a : Nat} (hs : x_sh a = (6, 4)) (hst : st.length ≤ 4) (h : x_V S 47 0 [some (.ref a), some (.int x0), none] [] μ n (x_bk S 48 2 L st Q)) : x_V S 48 2 L (.int x0 :: .ref a :: st) μ n Q := x_callV (k' := 47) (as := [.int x0]) (na := 1) d48_2 ⟨w598, by decide +kernel, by decide, by decide, by decide, by decide, by decide⟩ cf6 w595 w596 w597 (by decide +kernel) rfl hs (fun v hv => by
    simp only [List.mem_cons, List.not_mem_nil, or_false] at hv
    rcases hv with rfl <;> first | rfl | assumption) hst h
theorem s48_5 {S : Nat × (Nat → Int32)} {L : List (Option Value)} {st : List Value} {n : Nat} {Q : xQ} {μ : xM} {a : Nat} (h : x_V S 48 6 (L.set 2 (some (.ref a))) (st) μ n Q) : x_V S 48 5 L (.ref a :: st) μ n Q := x_astore_n d48_5 (by decide) h
theorem s48_5N {S : Nat × (Nat → Int32)} {L : List (Option Value)} {st : List Value} {n : Nat} {Q : xQ} {μ : xM} (h : x_V S 48 6 (L.set 2 (some .null)) (st) μ n Q) : x_V S 48 5 L (.null :: st) μ n Q := x_astore_nN d48_5 (by decide) h
theorem s48_6 {S : Nat × (Nat → Int32)} {L : List (Option Value)} {st : List Value} {n : Nat} {Q : xQ} {μ : xM} {a : Nat} (hl : L[2]? = some (some (.ref a))) (h : x_V S 48 7 L (.ref a :: st) μ n Q) : x_V S 48 6 L (st) μ n Q := x_aload_n d48_6 hl h
theorem s48_6N {S : Nat × (Nat → Int32)} {L : List (Option Value)} {st : List Value} {n : Nat} {Q : xQ} {μ : xM} (hl : L[2]? = some (some .null)) (h : x_V S 48 7 L (.null :: st) μ n Q) : x_V S 48 6 L st μ n Q := x_aload_nN d48_6 hl h
theorem s48_7 {S : Nat × (Nat → Int32)} {L : List (Option Value)} {st : List Value} {n : Nat} {Q : xQ} {μ : xM} {a : Nat} (h : x_V S 48 10 L (st) μ n Q) : x_V S 48 7 L (.ref a :: st) μ n Q := x_ifnull_n d48_7 h
theorem s48_7N {S : Nat × (Nat → Int32)} {L : List (Option Value)} {st : List Value} {n : Nat} {Q : xQ} {μ : xM} (h : x_V S 48 21 L (st) μ n Q) : x_V S 48 7 L (.null :: st) μ n Q := x_ifnull_y (tgt := 21) (by decide) d48_7 h
theorem s48_10 {S : Nat × (Nat → Int32)} {L : List (Option Value)} {st : List Value} {n : Nat} {Q : xQ} {μ : xM} {a : Nat} (hl : L[2]? = some (some (.ref a))) (h : x_V S 48 11 L (.ref a :: st) μ n Q) : x_V S 48 10 L (st) μ n Q := x_aload_n d48_10 hl h
theorem s48_10N {S : Nat × (Nat → Int32)} {L : List (Option Value)} {st : List Value} {n : Nat} {Q : xQ} {μ : xM} (hl : L[2]? = some (some .null)) (h : x_V S 48 11 L (.null :: st) μ n Q) : x_V S 48 10 L st μ n Q := x_aload_nN d48_10 hl h
theorem s48_11 {S : Nat × (Nat → Int32)} {L : List (Option Value)} {st : List Value} {n : Nat} {Q : xQ} {μ : xM}  {a : Nat} (hs : x_sh a = (7, 5)) (hst : st.length ≤ 4) (h : x_V S 18 0 [some (.ref a)] [] μ n (x_bk S 48 11 L st Q)) : x_V S 48 11 L (.ref a :: st) μ n Q := x_callV (k' := 18) (as := []) (na := 0) d48_11 ⟨w602, by decide +kernel, by decide, by decide, by decide, by decide, by decide⟩ cf7 w599 w600 w601 (by decide +kernel) rfl hs (fun v hv => by
    cases hv) hst h
theorem s48_14 {S : Nat × (Nat → Int32)} {L : List (Option Value)} {st : List Value} {n : Nat} {Q : xQ} {μ : xM} {x : Int} (hx : ib x) (kt : x = 0 → x_V S 48 21 L (st) μ n Q) (kf : x ≠ 0 → x_V S 48 17 L (st) μ n Q) : x_V S 48 14 L (.int (I x) :: st) μ n Q := v_if_eq d48_14 (by decide) hx kt kf
theorem s48_17 {S : Nat × (Nat → Int32)} {L : List (Option Value)} {st : List Value} {n : Nat} {Q : xQ} {μ : xM} {a : Nat} (hl : L[2]? = some (some (.ref a))) (h : x_V S 48 18 L (.ref a :: st) μ n Q) : x_V S 48 17 L (st) μ n Q := x_aload_n d48_17 hl h
theorem s48_17N {S : Nat × (Nat → Int32)} {L : List (Option Value)} {st : List Value} {n : Nat} {Q : xQ} {μ : xM} (hl : L[2]? = some (some .null)) (h : x_V S 48 18 L (.null :: st) μ n Q) : x_V S 48 17 L st μ n Q := x_aload_nN d48_17 hl h
theorem s48_18 {S : Nat × (Nat → Int32)} {L : List (Option Value)} {st : List Value} {n : Nat} {Q : xQ} {μ : xM}  (h : x_V S 48 22 L (st) μ n Q) : x_V S 48 18 L (st) μ n Q := x_goto (tgt := 22) (by decide) d48_18 h
theorem s48_21 {S : Nat × (Nat → Int32)} {L : List (Option Value)} {st : List Value} {n : Nat} {Q : xQ} {μ : xM}  (h : x_V S 48 22 L (.null :: st) μ n Q) : x_V S 48 21 L (st) μ n Q := x_null d48_21 h
theorem s48_22 {S : Nat × (Nat → Int32)} {L : List (Option Value)} {st : List Value} {n : Nat} {Q : xQ} {μ : xM} {v : Value} (hv : v = .null ∨ ∃ a, v = .ref a) (h : Q (.inl (some v)) μ n) : x_V S 48 22 L (v :: []) μ n Q := x_areturn d48_22 rfl (Or.inl ⟨_, rfl⟩) hv h
theorem mC_49 : mC 49 = prog_2_method_4_code := rfl
theorem d49_0 : decode (mC 49) 0 = .ok (.aload_n 1, 1) := by rw [mC_49]; decide +kernel
theorem d49_1 : decode (mC 49) 1 = .ok (.getfield 37, 3) := by rw [mC_49]; decide +kernel
theorem d49_4 : decode (mC 49) 4 = .ok (.iconst 0, 1) := by rw [mC_49]; decide +kernel
theorem d49_5 : decode (mC 49) 5 = .ok (.iaload, 1) := by rw [mC_49]; decide +kernel
theorem d49_6 : decode (mC 49) 6 = .ok (.istore_n 2, 1) := by rw [mC_49]; decide +kernel
theorem d49_7 : decode (mC 49) 7 = .ok (.iload_n 2, 1) := by rw [mC_49]; decide +kernel
theorem d49_8 : decode (mC 49) 8 = .ok (.ifCond .eq 11, 3) := by rw [mC_49]; decide +kernel
theorem d49_11 : decode (mC 49) 11 = .ok (.aload_n 0, 1) := by rw [mC_49]; decide +kernel
theorem d49_12 : decode (mC 49) 12 = .ok (.iload_n 2, 1) := by rw [mC_49]; decide +kernel
theorem d49_13 : decode (mC 49) 13 = .ok (.invokevirtual 42, 3) := by rw [mC_49]; decide +kernel
theorem d49_16 : decode (mC 49) 16 = .ok (.ifCond .eq 5, 3) := by rw [mC_49]; decide +kernel
theorem d49_19 : decode (mC 49) 19 = .ok (.aconst_null, 1) := by rw [mC_49]; decide +kernel
theorem d49_20 : decode (mC 49) 20 = .ok (.areturn, 1) := by rw [mC_49]; decide +kernel
theorem d49_21 : decode (mC 49) 21 = .ok (.aload_n 1, 1) := by rw [mC_49]; decide +kernel
theorem d49_22 : decode (mC 49) 22 = .ok (.getfield 46, 3) := by rw [mC_49]; decide +kernel
theorem d49_25 : decode (mC 49) 25 = .ok (.bipush 68, 2) := by rw [mC_49]; decide +kernel
theorem d49_27 : decode (mC 49) 27 = .ok (.if_icmp .ne 22, 3) := by rw [mC_49]; decide +kernel
theorem d49_30 : decode (mC 49) 30 = .ok (.aload_n 0, 1) := by rw [mC_49]; decide +kernel
theorem d49_31 : decode (mC 49) 31 = .ok (.aload_n 1, 1) := by rw [mC_49]; decide +kernel
theorem d49_32 : decode (mC 49) 32 = .ok (.getfield 37, 3) := by rw [mC_49]; decide +kernel
theorem d49_35 : decode (mC 49) 35 = .ok (.iconst 1, 1) := by rw [mC_49]; decide +kernel
theorem d49_36 : decode (mC 49) 36 = .ok (.iaload, 1) := by rw [mC_49]; decide +kernel
theorem d49_37 : decode (mC 49) 37 = .ok (.aload_n 1, 1) := by rw [mC_49]; decide +kernel
theorem d49_38 : decode (mC 49) 38 = .ok (.getfield 37, 3) := by rw [mC_49]; decide +kernel
theorem d49_41 : decode (mC 49) 41 = .ok (.iconst 2, 1) := by rw [mC_49]; decide +kernel
theorem d49_42 : decode (mC 49) 42 = .ok (.iaload, 1) := by rw [mC_49]; decide +kernel
theorem d49_43 : decode (mC 49) 43 = .ok (.invokevirtual 49, 3) := by rw [mC_49]; decide +kernel
theorem d49_46 : decode (mC 49) 46 = .ok (.goto 33, 3) := by rw [mC_49]; decide +kernel
theorem d49_49 : decode (mC 49) 49 = .ok (.aload_n 0, 1) := by rw [mC_49]; decide +kernel
theorem d49_50 : decode (mC 49) 50 = .ok (.aload_n 1, 1) := by rw [mC_49]; decide +kernel
theorem d49_51 : decode (mC 49) 51 = .ok (.getfield 37, 3) := by rw [mC_49]; decide +kernel
theorem d49_54 : decode (mC 49) 54 = .ok (.iconst 1, 1) := by rw [mC_49]; decide +kernel
theorem d49_55 : decode (mC 49) 55 = .ok (.iaload, 1) := by rw [mC_49]; decide +kernel
theorem d49_56 : decode (mC 49) 56 = .ok (.aload_n 1, 1) := by rw [mC_49]; decide +kernel
theorem d49_57 : decode (mC 49) 57 = .ok (.getfield 46, 3) := by rw [mC_49]; decide +kernel
theorem d49_60 : decode (mC 49) 60 = .ok (.bipush 70, 2) := by rw [mC_49]; decide +kernel
theorem d49_62 : decode (mC 49) 62 = .ok (.if_icmp .ne 7, 3) := by rw [mC_49]; decide +kernel
theorem d49_65 : decode (mC 49) 65 = .ok (.iconst 1, 1) := by rw [mC_49]; decide +kernel
theorem d49_66 : decode (mC 49) 66 = .ok (.goto 4, 3) := by rw [mC_49]; decide +kernel
theorem d49_69 : decode (mC 49) 69 = .ok (.iconst 0, 1) := by rw [mC_49]; decide +kernel
theorem d49_70 : decode (mC 49) 70 = .ok (.aload_n 1, 1) := by rw [mC_49]; decide +kernel
theorem d49_71 : decode (mC 49) 71 = .ok (.getfield 37, 3) := by rw [mC_49]; decide +kernel
theorem d49_74 : decode (mC 49) 74 = .ok (.iconst 2, 1) := by rw [mC_49]; decide +kernel
theorem d49_75 : decode (mC 49) 75 = .ok (.iaload, 1) := by rw [mC_49]; decide +kernel
theorem d49_76 : decode (mC 49) 76 = .ok (.invokevirtual 53, 3) := by rw [mC_49]; decide +kernel
theorem d49_79 : decode (mC 49) 79 = .ok (.astore_n 3, 1) := by rw [mC_49]; decide +kernel
theorem d49_80 : decode (mC 49) 80 = .ok (.aload_n 3, 1) := by rw [mC_49]; decide +kernel
theorem d49_81 : decode (mC 49) 81 = .ok (.ifnull 13, 3) := by rw [mC_49]; decide +kernel
theorem d49_84 : decode (mC 49) 84 = .ok (.aload_n 3, 1) := by rw [mC_49]; decide +kernel
theorem d49_85 : decode (mC 49) 85 = .ok (.iload_n 2, 1) := by rw [mC_49]; decide +kernel
theorem d49_86 : decode (mC 49) 86 = .ok (.putfield 26, 3) := by rw [mC_49]; decide +kernel
theorem d49_89 : decode (mC 49) 89 = .ok (.aload_n 0, 1) := by rw [mC_49]; decide +kernel
theorem d49_90 : decode (mC 49) 90 = .ok (.iload_n 2, 1) := by rw [mC_49]; decide +kernel
theorem d49_91 : decode (mC 49) 91 = .ok (.invokevirtual 57, 3) := by rw [mC_49]; decide +kernel
theorem d49_94 : decode (mC 49) 94 = .ok (.aload_n 3, 1) := by rw [mC_49]; decide +kernel
theorem d49_95 : decode (mC 49) 95 = .ok (.areturn, 1) := by rw [mC_49]; decide +kernel
theorem s49_0 {S : Nat × (Nat → Int32)} {L : List (Option Value)} {st : List Value} {n : Nat} {Q : xQ} {μ : xM} {a : Nat} (hl : L[1]? = some (some (.ref a))) (h : x_V S 49 1 L (.ref a :: st) μ n Q) : x_V S 49 0 L (st) μ n Q := x_aload_n d49_0 hl h
theorem s49_0N {S : Nat × (Nat → Int32)} {L : List (Option Value)} {st : List Value} {n : Nat} {Q : xQ} {μ : xM} (hl : L[1]? = some (some .null)) (h : x_V S 49 1 L (.null :: st) μ n Q) : x_V S 49 0 L st μ n Q := x_aload_nN d49_0 hl h
theorem s49_1 {S : Nat × (Nat → Int32)} {L : List (Option Value)} {st : List Value} {n : Nat} {Q : xQ} {g : Nat → Nat → Int} {a : Nat} {v : Value} (hs : x_sh a = (3, 4)) (hp : x_pt a 3 = some v) (h : x_V S 49 4 L (v :: st) (x_vm g) n Q) : x_V S 49 1 L (.ref a :: st) (x_vm g) n Q := v_getp (i := 3) cf3 d49_1 (by decide) w75 hs hp h
theorem s49_4 {S : Nat × (Nat → Int32)} {L : List (Option Value)} {st : List Value} {n : Nat} {Q : xQ} {μ : xM}  (h : x_V S 49 5 L (.int (I 0) :: st) μ n Q) : x_V S 49 4 L (st) μ n Q := x_iconst (by decide +kernel) d49_4 h
theorem s49_6 {S : Nat × (Nat → Int32)} {L : List (Option Value)} {st : List Value} {n : Nat} {Q : xQ} {μ : xM} {x : Int32} (h : x_V S 49 7 (L.set 2 (some (.int x))) (st) μ n Q) : x_V S 49 6 L (.int x :: st) μ n Q := x_istore_n d49_6 (by decide) h
theorem s49_7 {S : Nat × (Nat → Int32)} {L : List (Option Value)} {st : List Value} {n : Nat} {Q : xQ} {μ : xM} {x : Int32} (hl : L[2]? = some (some (.int x))) (h : x_V S 49 8 L (.int x :: st) μ n Q) : x_V S 49 7 L (st) μ n Q := x_iload_n d49_7 hl h
theorem s49_8 {S : Nat × (Nat → Int32)} {L : List (Option Value)} {st : List Value} {n : Nat} {Q : xQ} {μ : xM} {x : Int} (hx : ib x) (kt : x = 0 → x_V S 49 19 L (st) μ n Q) (kf : x ≠ 0 → x_V S 49 11 L (st) μ n Q) : x_V S 49 8 L (.int (I x) :: st) μ n Q := v_if_eq d49_8 (by decide) hx kt kf
theorem s49_11 {S : Nat × (Nat → Int32)} {L : List (Option Value)} {st : List Value} {n : Nat} {Q : xQ} {μ : xM} {a : Nat} (hl : L[0]? = some (some (.ref a))) (h : x_V S 49 12 L (.ref a :: st) μ n Q) : x_V S 49 11 L (st) μ n Q := x_aload_n d49_11 hl h
theorem s49_11N {S : Nat × (Nat → Int32)} {L : List (Option Value)} {st : List Value} {n : Nat} {Q : xQ} {μ : xM} (hl : L[0]? = some (some .null)) (h : x_V S 49 12 L (.null :: st) μ n Q) : x_V S 49 11 L st μ n Q := x_aload_nN d49_11 hl h
theorem s49_12 {S : Nat × (Nat → Int32)} {L : List (Option Value)} {st : List Value} {n : Nat} {Q : xQ} {μ : xM} {x : Int32} (hl : L[2]? = some (some (.int x))) (h : x_V S 49 13 L (.int x :: st) μ n Q) : x_V S 49 12 L (st) μ n Q := x_iload_n d49_12 hl h
theorem s49_13 {S : Nat × (Nat → Int32)} {L : List (Option Value)} {st : List Value} {n : Nat} {Q : xQ} {μ : xM} {x0 : Int32} {a : Nat} (hs : x_sh a = (6, 4)) (hst : st.length ≤ 4) (h : x_V S 52 0 [some (.ref a), some (.int x0), none] [] μ n (x_bk S 49 13 L st Q)) : x_V S 49 13 L (.int x0 :: .ref a :: st) μ n Q := x_callV (k' := 52) (as := [.int x0]) (na := 1) d49_13 ⟨w582, by decide +kernel, by decide, by decide, by decide, by decide, by decide⟩ cf6 w579 w581 wp20 (by decide +kernel) rfl hs (fun v hv => by
    simp only [List.mem_cons, List.not_mem_nil, or_false] at hv
    rcases hv with rfl <;> first | rfl | assumption) hst h
theorem s49_16 {S : Nat × (Nat → Int32)} {L : List (Option Value)} {st : List Value} {n : Nat} {Q : xQ} {μ : xM} {x : Int} (hx : ib x) (kt : x = 0 → x_V S 49 21 L (st) μ n Q) (kf : x ≠ 0 → x_V S 49 19 L (st) μ n Q) : x_V S 49 16 L (.int (I x) :: st) μ n Q := v_if_eq d49_16 (by decide) hx kt kf
theorem s49_19 {S : Nat × (Nat → Int32)} {L : List (Option Value)} {st : List Value} {n : Nat} {Q : xQ} {μ : xM}  (h : x_V S 49 20 L (.null :: st) μ n Q) : x_V S 49 19 L (st) μ n Q := x_null d49_19 h
theorem s49_20 {S : Nat × (Nat → Int32)} {L : List (Option Value)} {st : List Value} {n : Nat} {Q : xQ} {μ : xM} {v : Value} (hv : v = .null ∨ ∃ a, v = .ref a) (h : Q (.inl (some v)) μ n) : x_V S 49 20 L (v :: []) μ n Q := x_areturn d49_20 rfl (Or.inl ⟨_, rfl⟩) hv h
theorem s49_21 {S : Nat × (Nat → Int32)} {L : List (Option Value)} {st : List Value} {n : Nat} {Q : xQ} {μ : xM} {a : Nat} (hl : L[1]? = some (some (.ref a))) (h : x_V S 49 22 L (.ref a :: st) μ n Q) : x_V S 49 21 L (st) μ n Q := x_aload_n d49_21 hl h
theorem s49_21N {S : Nat × (Nat → Int32)} {L : List (Option Value)} {st : List Value} {n : Nat} {Q : xQ} {μ : xM} (hl : L[1]? = some (some .null)) (h : x_V S 49 22 L (.null :: st) μ n Q) : x_V S 49 21 L st μ n Q := x_aload_nN d49_21 hl h
theorem s49_22 {S : Nat × (Nat → Int32)} {L : List (Option Value)} {st : List Value} {n : Nat} {Q : xQ} {g : Nat → Nat → Int} {a : Nat} (hs : x_sh a = (3, 4)) (hp : x_pt a 0 = none) (ha : a ≠ x_out) (h : x_V S 49 25 L (.int (I (g a 0)) :: st) (x_vm g) n Q) : x_V S 49 22 L (.ref a :: st) (x_vm g) n Q := v_get (i := 0) cf3 d49_22 (by decide) w68 hs hp ha h
theorem s49_25 {S : Nat × (Nat → Int32)} {L : List (Option Value)} {st : List Value} {n : Nat} {Q : xQ} {μ : xM}  (h : x_V S 49 27 L (.int (I 68) :: st) μ n Q) : x_V S 49 25 L (st) μ n Q := x_bipush (by decide +kernel) d49_25 h
theorem s49_27 {S : Nat × (Nat → Int32)} {L : List (Option Value)} {st : List Value} {n : Nat} {Q : xQ} {μ : xM} {x y : Int} (hx : ib x) (hy : ib y) (kt : x ≠ y → x_V S 49 49 L (st) μ n Q) (kf : x = y → x_V S 49 30 L (st) μ n Q) : x_V S 49 27 L (.int (I y) :: .int (I x) :: st) μ n Q := v_icmp_ne d49_27 (by decide) hx hy kt kf
theorem s49_30 {S : Nat × (Nat → Int32)} {L : List (Option Value)} {st : List Value} {n : Nat} {Q : xQ} {μ : xM} {a : Nat} (hl : L[0]? = some (some (.ref a))) (h : x_V S 49 31 L (.ref a :: st) μ n Q) : x_V S 49 30 L (st) μ n Q := x_aload_n d49_30 hl h
theorem s49_30N {S : Nat × (Nat → Int32)} {L : List (Option Value)} {st : List Value} {n : Nat} {Q : xQ} {μ : xM} (hl : L[0]? = some (some .null)) (h : x_V S 49 31 L (.null :: st) μ n Q) : x_V S 49 30 L st μ n Q := x_aload_nN d49_30 hl h
theorem s49_31 {S : Nat × (Nat → Int32)} {L : List (Option Value)} {st : List Value} {n : Nat} {Q : xQ} {μ : xM} {a : Nat} (hl : L[1]? = some (some (.ref a))) (h : x_V S 49 32 L (.ref a :: st) μ n Q) : x_V S 49 31 L (st) μ n Q := x_aload_n d49_31 hl h
theorem s49_31N {S : Nat × (Nat → Int32)} {L : List (Option Value)} {st : List Value} {n : Nat} {Q : xQ} {μ : xM} (hl : L[1]? = some (some .null)) (h : x_V S 49 32 L (.null :: st) μ n Q) : x_V S 49 31 L st μ n Q := x_aload_nN d49_31 hl h
theorem s49_32 {S : Nat × (Nat → Int32)} {L : List (Option Value)} {st : List Value} {n : Nat} {Q : xQ} {g : Nat → Nat → Int} {a : Nat} {v : Value} (hs : x_sh a = (3, 4)) (hp : x_pt a 3 = some v) (h : x_V S 49 35 L (v :: st) (x_vm g) n Q) : x_V S 49 32 L (.ref a :: st) (x_vm g) n Q := v_getp (i := 3) cf3 d49_32 (by decide) w75 hs hp h
theorem s49_35 {S : Nat × (Nat → Int32)} {L : List (Option Value)} {st : List Value} {n : Nat} {Q : xQ} {μ : xM}  (h : x_V S 49 36 L (.int (I 1) :: st) μ n Q) : x_V S 49 35 L (st) μ n Q := x_iconst (by decide +kernel) d49_35 h
theorem s49_37 {S : Nat × (Nat → Int32)} {L : List (Option Value)} {st : List Value} {n : Nat} {Q : xQ} {μ : xM} {a : Nat} (hl : L[1]? = some (some (.ref a))) (h : x_V S 49 38 L (.ref a :: st) μ n Q) : x_V S 49 37 L (st) μ n Q := x_aload_n d49_37 hl h
theorem s49_37N {S : Nat × (Nat → Int32)} {L : List (Option Value)} {st : List Value} {n : Nat} {Q : xQ} {μ : xM} (hl : L[1]? = some (some .null)) (h : x_V S 49 38 L (.null :: st) μ n Q) : x_V S 49 37 L st μ n Q := x_aload_nN d49_37 hl h
theorem s49_38 {S : Nat × (Nat → Int32)} {L : List (Option Value)} {st : List Value} {n : Nat} {Q : xQ} {g : Nat → Nat → Int} {a : Nat} {v : Value} (hs : x_sh a = (3, 4)) (hp : x_pt a 3 = some v) (h : x_V S 49 41 L (v :: st) (x_vm g) n Q) : x_V S 49 38 L (.ref a :: st) (x_vm g) n Q := v_getp (i := 3) cf3 d49_38 (by decide) w75 hs hp h
theorem s49_41 {S : Nat × (Nat → Int32)} {L : List (Option Value)} {st : List Value} {n : Nat} {Q : xQ} {μ : xM}  (h : x_V S 49 42 L (.int (I 2) :: st) μ n Q) : x_V S 49 41 L (st) μ n Q := x_iconst (by decide +kernel) d49_41 h
theorem s49_43 {S : Nat × (Nat → Int32)} {L : List (Option Value)} {st : List Value} {n : Nat} {Q : xQ} {μ : xM} {x0 : Int32} {x1 : Int32} {a : Nat} (hs : x_sh a = (6, 4)) (hst : st.length ≤ 4) (h : x_V S 50 0 [some (.ref a), some (.int x0), some (.int x1), none] [] μ n (x_bk S 49 43 L st Q)) : x_V S 49 43 L (.int x1 :: .int x0 :: .ref a :: st) μ n Q := x_callV (k' := 50) (as := [.int x0, .int x1]) (na := 2) d49_43 ⟨w586, by decide +kernel, by decide, by decide, by decide, by decide, by decide⟩ cf6 w583 w585 wp21 (by decide +kernel) rfl hs (fun v hv => by
    simp only [List.mem_cons, List.not_mem_nil, or_false] at hv
    rcases hv with rfl | rfl <;> first | rfl | assumption) hst h
theorem s49_46 {S : Nat × (Nat → Int32)} {L : List (Option Value)} {st : List Value} {n : Nat} {Q : xQ} {μ : xM}  (h : x_V S 49 79 L (st) μ n Q) : x_V S 49 46 L (st) μ n Q := x_goto (tgt := 79) (by decide) d49_46 h
theorem s49_49 {S : Nat × (Nat → Int32)} {L : List (Option Value)} {st : List Value} {n : Nat} {Q : xQ} {μ : xM} {a : Nat} (hl : L[0]? = some (some (.ref a))) (h : x_V S 49 50 L (.ref a :: st) μ n Q) : x_V S 49 49 L (st) μ n Q := x_aload_n d49_49 hl h
theorem s49_49N {S : Nat × (Nat → Int32)} {L : List (Option Value)} {st : List Value} {n : Nat} {Q : xQ} {μ : xM} (hl : L[0]? = some (some .null)) (h : x_V S 49 50 L (.null :: st) μ n Q) : x_V S 49 49 L st μ n Q := x_aload_nN d49_49 hl h
theorem s49_50 {S : Nat × (Nat → Int32)} {L : List (Option Value)} {st : List Value} {n : Nat} {Q : xQ} {μ : xM} {a : Nat} (hl : L[1]? = some (some (.ref a))) (h : x_V S 49 51 L (.ref a :: st) μ n Q) : x_V S 49 50 L (st) μ n Q := x_aload_n d49_50 hl h
theorem s49_50N {S : Nat × (Nat → Int32)} {L : List (Option Value)} {st : List Value} {n : Nat} {Q : xQ} {μ : xM} (hl : L[1]? = some (some .null)) (h : x_V S 49 51 L (.null :: st) μ n Q) : x_V S 49 50 L st μ n Q := x_aload_nN d49_50 hl h
theorem s49_51 {S : Nat × (Nat → Int32)} {L : List (Option Value)} {st : List Value} {n : Nat} {Q : xQ} {g : Nat → Nat → Int} {a : Nat} {v : Value} (hs : x_sh a = (3, 4)) (hp : x_pt a 3 = some v) (h : x_V S 49 54 L (v :: st) (x_vm g) n Q) : x_V S 49 51 L (.ref a :: st) (x_vm g) n Q := v_getp (i := 3) cf3 d49_51 (by decide) w75 hs hp h
theorem s49_54 {S : Nat × (Nat → Int32)} {L : List (Option Value)} {st : List Value} {n : Nat} {Q : xQ} {μ : xM}  (h : x_V S 49 55 L (.int (I 1) :: st) μ n Q) : x_V S 49 54 L (st) μ n Q := x_iconst (by decide +kernel) d49_54 h
theorem s49_56 {S : Nat × (Nat → Int32)} {L : List (Option Value)} {st : List Value} {n : Nat} {Q : xQ} {μ : xM} {a : Nat} (hl : L[1]? = some (some (.ref a))) (h : x_V S 49 57 L (.ref a :: st) μ n Q) : x_V S 49 56 L (st) μ n Q := x_aload_n d49_56 hl h
theorem s49_56N {S : Nat × (Nat → Int32)} {L : List (Option Value)} {st : List Value} {n : Nat} {Q : xQ} {μ : xM} (hl : L[1]? = some (some .null)) (h : x_V S 49 57 L (.null :: st) μ n Q) : x_V S 49 56 L st μ n Q := x_aload_nN d49_56 hl h
theorem s49_57 {S : Nat × (Nat → Int32)} {L : List (Option Value)} {st : List Value} {n : Nat} {Q : xQ} {g : Nat → Nat → Int} {a : Nat} (hs : x_sh a = (3, 4)) (hp : x_pt a 0 = none) (ha : a ≠ x_out) (h : x_V S 49 60 L (.int (I (g a 0)) :: st) (x_vm g) n Q) : x_V S 49 57 L (.ref a :: st) (x_vm g) n Q := v_get (i := 0) cf3 d49_57 (by decide) w68 hs hp ha h
theorem s49_60 {S : Nat × (Nat → Int32)} {L : List (Option Value)} {st : List Value} {n : Nat} {Q : xQ} {μ : xM}  (h : x_V S 49 62 L (.int (I 70) :: st) μ n Q) : x_V S 49 60 L (st) μ n Q := x_bipush (by decide +kernel) d49_60 h
theorem s49_62 {S : Nat × (Nat → Int32)} {L : List (Option Value)} {st : List Value} {n : Nat} {Q : xQ} {μ : xM} {x y : Int} (hx : ib x) (hy : ib y) (kt : x ≠ y → x_V S 49 69 L (st) μ n Q) (kf : x = y → x_V S 49 65 L (st) μ n Q) : x_V S 49 62 L (.int (I y) :: .int (I x) :: st) μ n Q := v_icmp_ne d49_62 (by decide) hx hy kt kf
theorem s49_65 {S : Nat × (Nat → Int32)} {L : List (Option Value)} {st : List Value} {n : Nat} {Q : xQ} {μ : xM}  (h : x_V S 49 66 L (.int (I 1) :: st) μ n Q) : x_V S 49 65 L (st) μ n Q := x_iconst (by decide +kernel) d49_65 h
theorem s49_66 {S : Nat × (Nat → Int32)} {L : List (Option Value)} {st : List Value} {n : Nat} {Q : xQ} {μ : xM}  (h : x_V S 49 70 L (st) μ n Q) : x_V S 49 66 L (st) μ n Q := x_goto (tgt := 70) (by decide) d49_66 h
theorem s49_69 {S : Nat × (Nat → Int32)} {L : List (Option Value)} {st : List Value} {n : Nat} {Q : xQ} {μ : xM}  (h : x_V S 49 70 L (.int (I 0) :: st) μ n Q) : x_V S 49 69 L (st) μ n Q := x_iconst (by decide +kernel) d49_69 h
theorem s49_70 {S : Nat × (Nat → Int32)} {L : List (Option Value)} {st : List Value} {n : Nat} {Q : xQ} {μ : xM} {a : Nat} (hl : L[1]? = some (some (.ref a))) (h : x_V S 49 71 L (.ref a :: st) μ n Q) : x_V S 49 70 L (st) μ n Q := x_aload_n d49_70 hl h
theorem s49_70N {S : Nat × (Nat → Int32)} {L : List (Option Value)} {st : List Value} {n : Nat} {Q : xQ} {μ : xM} (hl : L[1]? = some (some .null)) (h : x_V S 49 71 L (.null :: st) μ n Q) : x_V S 49 70 L st μ n Q := x_aload_nN d49_70 hl h
theorem s49_71 {S : Nat × (Nat → Int32)} {L : List (Option Value)} {st : List Value} {n : Nat} {Q : xQ} {g : Nat → Nat → Int} {a : Nat} {v : Value} (hs : x_sh a = (3, 4)) (hp : x_pt a 3 = some v) (h : x_V S 49 74 L (v :: st) (x_vm g) n Q) : x_V S 49 71 L (.ref a :: st) (x_vm g) n Q := v_getp (i := 3) cf3 d49_71 (by decide) w75 hs hp h
theorem s49_74 {S : Nat × (Nat → Int32)} {L : List (Option Value)} {st : List Value} {n : Nat} {Q : xQ} {μ : xM}  (h : x_V S 49 75 L (.int (I 2) :: st) μ n Q) : x_V S 49 74 L (st) μ n Q := x_iconst (by decide +kernel) d49_74 h
theorem s49_76 {S : Nat × (Nat → Int32)} {L : List (Option Value)} {st : List Value} {n : Nat} {Q : xQ} {μ : xM} {x0 : Int32} {x1 : Int32} {x2 : Int32} {a : Nat} (hs : x_sh a = (6, 4)) (hst : st.length ≤ 4) (h : x_V S 51 0 [some (.ref a), some (.int x0), some (.int x1), some (.int x2), none] [] μ n (x_bk S 49 76 L st Q)) : x_V S 49 76 L (.int x2 :: .int x1 :: .int x0 :: .ref a :: st) μ n Q := x_callV (k' := 51) (as := [.int x0, .int x1, .int x2]) (na := 3) d49_76 ⟨w590, by decide +kernel, by decide, by decide, by decide, by decide, by decide⟩ cf6 w587 w589 wp22 (by decide +kernel) rfl hs (fun v hv => by
    simp only [List.mem_cons, List.not_mem_nil, or_false] at hv
    rcases hv with rfl | rfl | rfl <;> first | rfl | assumption) hst h
theorem s49_79 {S : Nat × (Nat → Int32)} {L : List (Option Value)} {st : List Value} {n : Nat} {Q : xQ} {μ : xM} {a : Nat} (h : x_V S 49 80 (L.set 3 (some (.ref a))) (st) μ n Q) : x_V S 49 79 L (.ref a :: st) μ n Q := x_astore_n d49_79 (by decide) h
theorem s49_79N {S : Nat × (Nat → Int32)} {L : List (Option Value)} {st : List Value} {n : Nat} {Q : xQ} {μ : xM} (h : x_V S 49 80 (L.set 3 (some .null)) (st) μ n Q) : x_V S 49 79 L (.null :: st) μ n Q := x_astore_nN d49_79 (by decide) h
theorem s49_80 {S : Nat × (Nat → Int32)} {L : List (Option Value)} {st : List Value} {n : Nat} {Q : xQ} {μ : xM} {a : Nat} (hl : L[3]? = some (some (.ref a))) (h : x_V S 49 81 L (.ref a :: st) μ n Q) : x_V S 49 80 L (st) μ n Q := x_aload_n d49_80 hl h
theorem s49_80N {S : Nat × (Nat → Int32)} {L : List (Option Value)} {st : List Value} {n : Nat} {Q : xQ} {μ : xM} (hl : L[3]? = some (some .null)) (h : x_V S 49 81 L (.null :: st) μ n Q) : x_V S 49 80 L st μ n Q := x_aload_nN d49_80 hl h
theorem s49_81 {S : Nat × (Nat → Int32)} {L : List (Option Value)} {st : List Value} {n : Nat} {Q : xQ} {μ : xM} {a : Nat} (h : x_V S 49 84 L (st) μ n Q) : x_V S 49 81 L (.ref a :: st) μ n Q := x_ifnull_n d49_81 h
theorem s49_81N {S : Nat × (Nat → Int32)} {L : List (Option Value)} {st : List Value} {n : Nat} {Q : xQ} {μ : xM} (h : x_V S 49 94 L (st) μ n Q) : x_V S 49 81 L (.null :: st) μ n Q := x_ifnull_y (tgt := 94) (by decide) d49_81 h
theorem s49_84 {S : Nat × (Nat → Int32)} {L : List (Option Value)} {st : List Value} {n : Nat} {Q : xQ} {μ : xM} {a : Nat} (hl : L[3]? = some (some (.ref a))) (h : x_V S 49 85 L (.ref a :: st) μ n Q) : x_V S 49 84 L (st) μ n Q := x_aload_n d49_84 hl h
theorem s49_84N {S : Nat × (Nat → Int32)} {L : List (Option Value)} {st : List Value} {n : Nat} {Q : xQ} {μ : xM} (hl : L[3]? = some (some .null)) (h : x_V S 49 85 L (.null :: st) μ n Q) : x_V S 49 84 L st μ n Q := x_aload_nN d49_84 hl h
theorem s49_85 {S : Nat × (Nat → Int32)} {L : List (Option Value)} {st : List Value} {n : Nat} {Q : xQ} {μ : xM} {x : Int32} (hl : L[2]? = some (some (.int x))) (h : x_V S 49 86 L (.int x :: st) μ n Q) : x_V S 49 85 L (st) μ n Q := x_iload_n d49_85 hl h
theorem s49_86 {S : Nat × (Nat → Int32)} {L : List (Option Value)} {st : List Value} {n : Nat} {Q : xQ} {g : Nat → Nat → Int} {a : Nat} {x : Int} (hs : x_sh a = (7, 5)) (hp : x_pt a 0 = none) (ha : a ≠ x_out) (h : x_V S 49 89 L (st) (x_vm (x_uf g a 0 x)) n Q) : x_V S 49 86 L (.int (I x) :: .ref a :: st) (x_vm g) n Q := v_put (i := 0) cf7 d49_86 (by decide) rfl w127 hs rfl hp ha h
theorem s49_89 {S : Nat × (Nat → Int32)} {L : List (Option Value)} {st : List Value} {n : Nat} {Q : xQ} {μ : xM} {a : Nat} (hl : L[0]? = some (some (.ref a))) (h : x_V S 49 90 L (.ref a :: st) μ n Q) : x_V S 49 89 L (st) μ n Q := x_aload_n d49_89 hl h
theorem s49_89N {S : Nat × (Nat → Int32)} {L : List (Option Value)} {st : List Value} {n : Nat} {Q : xQ} {μ : xM} (hl : L[0]? = some (some .null)) (h : x_V S 49 90 L (.null :: st) μ n Q) : x_V S 49 89 L st μ n Q := x_aload_nN d49_89 hl h
theorem s49_90 {S : Nat × (Nat → Int32)} {L : List (Option Value)} {st : List Value} {n : Nat} {Q : xQ} {μ : xM} {x : Int32} (hl : L[2]? = some (some (.int x))) (h : x_V S 49 91 L (.int x :: st) μ n Q) : x_V S 49 90 L (st) μ n Q := x_iload_n d49_90 hl h
theorem s49_91 {S : Nat × (Nat → Int32)} {L : List (Option Value)} {st : List Value} {n : Nat} {Q : xQ} {μ : xM} {x0 : Int32} {a : Nat} (hs : x_sh a = (6, 4)) (hst : st.length ≤ 4) (h : x_V S 53 0 [some (.ref a), some (.int x0)] [] μ n (x_bk S 49 91 L st Q)) : x_V S 49 91 L (.int x0 :: .ref a :: st) μ n Q := x_callV (k' := 53) (as := [.int x0]) (na := 1) d49_91 ⟨w606, by decide +kernel, by decide, by decide, by decide, by decide, by decide⟩ cf6 w603 w605 wp23 (by decide +kernel) rfl hs (fun v hv => by
    simp only [List.mem_cons, List.not_mem_nil, or_false] at hv
    rcases hv with rfl <;> first | rfl | assumption) hst h
theorem s49_94 {S : Nat × (Nat → Int32)} {L : List (Option Value)} {st : List Value} {n : Nat} {Q : xQ} {μ : xM} {a : Nat} (hl : L[3]? = some (some (.ref a))) (h : x_V S 49 95 L (.ref a :: st) μ n Q) : x_V S 49 94 L (st) μ n Q := x_aload_n d49_94 hl h
theorem s49_94N {S : Nat × (Nat → Int32)} {L : List (Option Value)} {st : List Value} {n : Nat} {Q : xQ} {μ : xM} (hl : L[3]? = some (some .null)) (h : x_V S 49 95 L (.null :: st) μ n Q) : x_V S 49 94 L st μ n Q := x_aload_nN d49_94 hl h
theorem s49_95 {S : Nat × (Nat → Int32)} {L : List (Option Value)} {st : List Value} {n : Nat} {Q : xQ} {μ : xM} {v : Value} (hv : v = .null ∨ ∃ a, v = .ref a) (h : Q (.inl (some v)) μ n) : x_V S 49 95 L (v :: []) μ n Q := x_areturn d49_95 rfl (Or.inl ⟨_, rfl⟩) hv h
theorem mC_50 : mC 50 = prog_2_method_5_code := rfl
theorem d50_0 : decode (mC 50) 0 = .ok (.iload_n 1, 1) := by rw [mC_50]; decide +kernel
theorem d50_1 : decode (mC 50) 1 = .ok (.iconst 1, 1) := by rw [mC_50]; decide +kernel
theorem d50_2 : decode (mC 50) 2 = .ok (.if_icmp .lt 21, 3) := by rw [mC_50]; decide +kernel
theorem d50_5 : decode (mC 50) 5 = .ok (.iload_n 1, 1) := by rw [mC_50]; decide +kernel
theorem d50_6 : decode (mC 50) 6 = .ok (.iconst 2, 1) := by rw [mC_50]; decide +kernel
theorem d50_7 : decode (mC 50) 7 = .ok (.if_icmp .gt 16, 3) := by rw [mC_50]; decide +kernel
theorem d50_10 : decode (mC 50) 10 = .ok (.iload_n 2, 1) := by rw [mC_50]; decide +kernel
theorem d50_11 : decode (mC 50) 11 = .ok (.ifCond .eq 12, 3) := by rw [mC_50]; decide +kernel
theorem d50_14 : decode (mC 50) 14 = .ok (.aload_n 0, 1) := by rw [mC_50]; decide +kernel
theorem d50_15 : decode (mC 50) 15 = .ok (.getfield 22, 3) := by rw [mC_50]; decide +kernel
theorem d50_18 : decode (mC 50) 18 = .ok (.bipush 40, 2) := by rw [mC_50]; decide +kernel
theorem d50_20 : decode (mC 50) 20 = .ok (.if_icmp .lt 5, 3) := by rw [mC_50]; decide +kernel
theorem d50_23 : decode (mC 50) 23 = .ok (.aconst_null, 1) := by rw [mC_50]; decide +kernel
theorem d50_24 : decode (mC 50) 24 = .ok (.areturn, 1) := by rw [mC_50]; decide +kernel
theorem d50_25 : decode (mC 50) 25 = .ok (.aload_n 0, 1) := by rw [mC_50]; decide +kernel
theorem d50_26 : decode (mC 50) 26 = .ok (.getfield 13, 3) := by rw [mC_50]; decide +kernel
theorem d50_29 : decode (mC 50) 29 = .ok (.aload_n 0, 1) := by rw [mC_50]; decide +kernel
theorem d50_30 : decode (mC 50) 30 = .ok (.getfield 22, 3) := by rw [mC_50]; decide +kernel
theorem d50_33 : decode (mC 50) 33 = .ok (.aaload, 1) := by rw [mC_50]; decide +kernel
theorem d50_34 : decode (mC 50) 34 = .ok (.astore_n 3, 1) := by rw [mC_50]; decide +kernel
theorem d50_35 : decode (mC 50) 35 = .ok (.aload_n 0, 1) := by rw [mC_50]; decide +kernel
theorem d50_36 : decode (mC 50) 36 = .ok (.dup, 1) := by rw [mC_50]; decide +kernel
theorem d50_37 : decode (mC 50) 37 = .ok (.getfield 22, 3) := by rw [mC_50]; decide +kernel
theorem d50_40 : decode (mC 50) 40 = .ok (.iconst 1, 1) := by rw [mC_50]; decide +kernel
theorem d50_41 : decode (mC 50) 41 = .ok (.iadd, 1) := by rw [mC_50]; decide +kernel
theorem d50_42 : decode (mC 50) 42 = .ok (.putfield 22, 3) := by rw [mC_50]; decide +kernel
theorem d50_45 : decode (mC 50) 45 = .ok (.aload_n 3, 1) := by rw [mC_50]; decide +kernel
theorem d50_46 : decode (mC 50) 46 = .ok (.iload_n 1, 1) := by rw [mC_50]; decide +kernel
theorem d50_47 : decode (mC 50) 47 = .ok (.putfield 61, 3) := by rw [mC_50]; decide +kernel
theorem d50_50 : decode (mC 50) 50 = .ok (.aload_n 3, 1) := by rw [mC_50]; decide +kernel
theorem d50_51 : decode (mC 50) 51 = .ok (.iload_n 2, 1) := by rw [mC_50]; decide +kernel
theorem d50_52 : decode (mC 50) 52 = .ok (.putfield 64, 3) := by rw [mC_50]; decide +kernel
theorem d50_55 : decode (mC 50) 55 = .ok (.aload_n 3, 1) := by rw [mC_50]; decide +kernel
theorem d50_56 : decode (mC 50) 56 = .ok (.areturn, 1) := by rw [mC_50]; decide +kernel
theorem s50_0 {S : Nat × (Nat → Int32)} {L : List (Option Value)} {st : List Value} {n : Nat} {Q : xQ} {μ : xM} {x : Int32} (hl : L[1]? = some (some (.int x))) (h : x_V S 50 1 L (.int x :: st) μ n Q) : x_V S 50 0 L (st) μ n Q := x_iload_n d50_0 hl h
theorem s50_1 {S : Nat × (Nat → Int32)} {L : List (Option Value)} {st : List Value} {n : Nat} {Q : xQ} {μ : xM}  (h : x_V S 50 2 L (.int (I 1) :: st) μ n Q) : x_V S 50 1 L (st) μ n Q := x_iconst (by decide +kernel) d50_1 h
theorem s50_2 {S : Nat × (Nat → Int32)} {L : List (Option Value)} {st : List Value} {n : Nat} {Q : xQ} {μ : xM} {x y : Int} (hx : ib x) (hy : ib y) (kt : x < y → x_V S 50 23 L (st) μ n Q) (kf : y ≤ x → x_V S 50 5 L (st) μ n Q) : x_V S 50 2 L (.int (I y) :: .int (I x) :: st) μ n Q := v_icmp_lt d50_2 (by decide) hx hy kt kf
theorem s50_5 {S : Nat × (Nat → Int32)} {L : List (Option Value)} {st : List Value} {n : Nat} {Q : xQ} {μ : xM} {x : Int32} (hl : L[1]? = some (some (.int x))) (h : x_V S 50 6 L (.int x :: st) μ n Q) : x_V S 50 5 L (st) μ n Q := x_iload_n d50_5 hl h
theorem s50_6 {S : Nat × (Nat → Int32)} {L : List (Option Value)} {st : List Value} {n : Nat} {Q : xQ} {μ : xM}  (h : x_V S 50 7 L (.int (I 2) :: st) μ n Q) : x_V S 50 6 L (st) μ n Q := x_iconst (by decide +kernel) d50_6 h
theorem s50_7 {S : Nat × (Nat → Int32)} {L : List (Option Value)} {st : List Value} {n : Nat} {Q : xQ} {μ : xM} {x y : Int} (hx : ib x) (hy : ib y) (kt : y < x → x_V S 50 23 L (st) μ n Q) (kf : x ≤ y → x_V S 50 10 L (st) μ n Q) : x_V S 50 7 L (.int (I y) :: .int (I x) :: st) μ n Q := v_icmp_gt d50_7 (by decide) hx hy kt kf
theorem s50_10 {S : Nat × (Nat → Int32)} {L : List (Option Value)} {st : List Value} {n : Nat} {Q : xQ} {μ : xM} {x : Int32} (hl : L[2]? = some (some (.int x))) (h : x_V S 50 11 L (.int x :: st) μ n Q) : x_V S 50 10 L (st) μ n Q := x_iload_n d50_10 hl h
theorem s50_11 {S : Nat × (Nat → Int32)} {L : List (Option Value)} {st : List Value} {n : Nat} {Q : xQ} {μ : xM} {x : Int} (hx : ib x) (kt : x = 0 → x_V S 50 23 L (st) μ n Q) (kf : x ≠ 0 → x_V S 50 14 L (st) μ n Q) : x_V S 50 11 L (.int (I x) :: st) μ n Q := v_if_eq d50_11 (by decide) hx kt kf
theorem s50_14 {S : Nat × (Nat → Int32)} {L : List (Option Value)} {st : List Value} {n : Nat} {Q : xQ} {μ : xM} {a : Nat} (hl : L[0]? = some (some (.ref a))) (h : x_V S 50 15 L (.ref a :: st) μ n Q) : x_V S 50 14 L (st) μ n Q := x_aload_n d50_14 hl h
theorem s50_14N {S : Nat × (Nat → Int32)} {L : List (Option Value)} {st : List Value} {n : Nat} {Q : xQ} {μ : xM} (hl : L[0]? = some (some .null)) (h : x_V S 50 15 L (.null :: st) μ n Q) : x_V S 50 14 L st μ n Q := x_aload_nN d50_14 hl h
theorem s50_15 {S : Nat × (Nat → Int32)} {L : List (Option Value)} {st : List Value} {n : Nat} {Q : xQ} {g : Nat → Nat → Int} {a : Nat} (hs : x_sh a = (6, 4)) (hp : x_pt a 1 = none) (ha : a ≠ x_out) (h : x_V S 50 18 L (.int (I (g a 1)) :: st) (x_vm g) n Q) : x_V S 50 15 L (.ref a :: st) (x_vm g) n Q := v_get (i := 1) cf6 d50_15 (by decide) w151 hs hp ha h
theorem s50_18 {S : Nat × (Nat → Int32)} {L : List (Option Value)} {st : List Value} {n : Nat} {Q : xQ} {μ : xM}  (h : x_V S 50 20 L (.int (I 40) :: st) μ n Q) : x_V S 50 18 L (st) μ n Q := x_bipush (by decide +kernel) d50_18 h
theorem s50_20 {S : Nat × (Nat → Int32)} {L : List (Option Value)} {st : List Value} {n : Nat} {Q : xQ} {μ : xM} {x y : Int} (hx : ib x) (hy : ib y) (kt : x < y → x_V S 50 25 L (st) μ n Q) (kf : y ≤ x → x_V S 50 23 L (st) μ n Q) : x_V S 50 20 L (.int (I y) :: .int (I x) :: st) μ n Q := v_icmp_lt d50_20 (by decide) hx hy kt kf
theorem s50_23 {S : Nat × (Nat → Int32)} {L : List (Option Value)} {st : List Value} {n : Nat} {Q : xQ} {μ : xM}  (h : x_V S 50 24 L (.null :: st) μ n Q) : x_V S 50 23 L (st) μ n Q := x_null d50_23 h
theorem s50_24 {S : Nat × (Nat → Int32)} {L : List (Option Value)} {st : List Value} {n : Nat} {Q : xQ} {μ : xM} {v : Value} (hv : v = .null ∨ ∃ a, v = .ref a) (h : Q (.inl (some v)) μ n) : x_V S 50 24 L (v :: []) μ n Q := x_areturn d50_24 rfl (Or.inl ⟨_, rfl⟩) hv h
theorem s50_25 {S : Nat × (Nat → Int32)} {L : List (Option Value)} {st : List Value} {n : Nat} {Q : xQ} {μ : xM} {a : Nat} (hl : L[0]? = some (some (.ref a))) (h : x_V S 50 26 L (.ref a :: st) μ n Q) : x_V S 50 25 L (st) μ n Q := x_aload_n d50_25 hl h
theorem s50_25N {S : Nat × (Nat → Int32)} {L : List (Option Value)} {st : List Value} {n : Nat} {Q : xQ} {μ : xM} (hl : L[0]? = some (some .null)) (h : x_V S 50 26 L (.null :: st) μ n Q) : x_V S 50 25 L st μ n Q := x_aload_nN d50_25 hl h
theorem s50_26 {S : Nat × (Nat → Int32)} {L : List (Option Value)} {st : List Value} {n : Nat} {Q : xQ} {g : Nat → Nat → Int} {a : Nat} {v : Value} (hs : x_sh a = (6, 4)) (hp : x_pt a 0 = some v) (h : x_V S 50 29 L (v :: st) (x_vm g) n Q) : x_V S 50 26 L (.ref a :: st) (x_vm g) n Q := v_getp (i := 0) cf6 d50_26 (by decide) w150 hs hp h
theorem s50_29 {S : Nat × (Nat → Int32)} {L : List (Option Value)} {st : List Value} {n : Nat} {Q : xQ} {μ : xM} {a : Nat} (hl : L[0]? = some (some (.ref a))) (h : x_V S 50 30 L (.ref a :: st) μ n Q) : x_V S 50 29 L (st) μ n Q := x_aload_n d50_29 hl h
theorem s50_29N {S : Nat × (Nat → Int32)} {L : List (Option Value)} {st : List Value} {n : Nat} {Q : xQ} {μ : xM} (hl : L[0]? = some (some .null)) (h : x_V S 50 30 L (.null :: st) μ n Q) : x_V S 50 29 L st μ n Q := x_aload_nN d50_29 hl h
theorem s50_30 {S : Nat × (Nat → Int32)} {L : List (Option Value)} {st : List Value} {n : Nat} {Q : xQ} {g : Nat → Nat → Int} {a : Nat} (hs : x_sh a = (6, 4)) (hp : x_pt a 1 = none) (ha : a ≠ x_out) (h : x_V S 50 33 L (.int (I (g a 1)) :: st) (x_vm g) n Q) : x_V S 50 30 L (.ref a :: st) (x_vm g) n Q := v_get (i := 1) cf6 d50_30 (by decide) w151 hs hp ha h
theorem s50_34 {S : Nat × (Nat → Int32)} {L : List (Option Value)} {st : List Value} {n : Nat} {Q : xQ} {μ : xM} {a : Nat} (h : x_V S 50 35 (L.set 3 (some (.ref a))) (st) μ n Q) : x_V S 50 34 L (.ref a :: st) μ n Q := x_astore_n d50_34 (by decide) h
theorem s50_34N {S : Nat × (Nat → Int32)} {L : List (Option Value)} {st : List Value} {n : Nat} {Q : xQ} {μ : xM} (h : x_V S 50 35 (L.set 3 (some .null)) (st) μ n Q) : x_V S 50 34 L (.null :: st) μ n Q := x_astore_nN d50_34 (by decide) h
theorem s50_35 {S : Nat × (Nat → Int32)} {L : List (Option Value)} {st : List Value} {n : Nat} {Q : xQ} {μ : xM} {a : Nat} (hl : L[0]? = some (some (.ref a))) (h : x_V S 50 36 L (.ref a :: st) μ n Q) : x_V S 50 35 L (st) μ n Q := x_aload_n d50_35 hl h
theorem s50_35N {S : Nat × (Nat → Int32)} {L : List (Option Value)} {st : List Value} {n : Nat} {Q : xQ} {μ : xM} (hl : L[0]? = some (some .null)) (h : x_V S 50 36 L (.null :: st) μ n Q) : x_V S 50 35 L st μ n Q := x_aload_nN d50_35 hl h
theorem s50_36 {S : Nat × (Nat → Int32)} {L : List (Option Value)} {st : List Value} {n : Nat} {Q : xQ} {μ : xM} {v : Value} (hc : v.category = 1) (h : x_V S 50 37 L (v :: v :: st) μ n Q) : x_V S 50 36 L (v :: st) μ n Q := x_dup hc d50_36 h
theorem s50_37 {S : Nat × (Nat → Int32)} {L : List (Option Value)} {st : List Value} {n : Nat} {Q : xQ} {g : Nat → Nat → Int} {a : Nat} (hs : x_sh a = (6, 4)) (hp : x_pt a 1 = none) (ha : a ≠ x_out) (h : x_V S 50 40 L (.int (I (g a 1)) :: st) (x_vm g) n Q) : x_V S 50 37 L (.ref a :: st) (x_vm g) n Q := v_get (i := 1) cf6 d50_37 (by decide) w151 hs hp ha h
theorem s50_40 {S : Nat × (Nat → Int32)} {L : List (Option Value)} {st : List Value} {n : Nat} {Q : xQ} {μ : xM}  (h : x_V S 50 41 L (.int (I 1) :: st) μ n Q) : x_V S 50 40 L (st) μ n Q := x_iconst (by decide +kernel) d50_40 h
theorem s50_41 {S : Nat × (Nat → Int32)} {L : List (Option Value)} {st : List Value} {n : Nat} {Q : xQ} {μ : xM} {x y : Int} (h : x_V S 50 42 L (.int (I (x + y)) :: st) μ n Q) : x_V S 50 41 L (.int (I y) :: .int (I x) :: st) μ n Q := v_iadd d50_41 h
theorem s50_42 {S : Nat × (Nat → Int32)} {L : List (Option Value)} {st : List Value} {n : Nat} {Q : xQ} {g : Nat → Nat → Int} {a : Nat} {x : Int} (hs : x_sh a = (6, 4)) (hp : x_pt a 1 = none) (ha : a ≠ x_out) (h : x_V S 50 45 L (st) (x_vm (x_uf g a 1 x)) n Q) : x_V S 50 42 L (.int (I x) :: .ref a :: st) (x_vm g) n Q := v_put (i := 1) cf6 d50_42 (by decide) rfl w151 hs rfl hp ha h
theorem s50_45 {S : Nat × (Nat → Int32)} {L : List (Option Value)} {st : List Value} {n : Nat} {Q : xQ} {μ : xM} {a : Nat} (hl : L[3]? = some (some (.ref a))) (h : x_V S 50 46 L (.ref a :: st) μ n Q) : x_V S 50 45 L (st) μ n Q := x_aload_n d50_45 hl h
theorem s50_45N {S : Nat × (Nat → Int32)} {L : List (Option Value)} {st : List Value} {n : Nat} {Q : xQ} {μ : xM} (hl : L[3]? = some (some .null)) (h : x_V S 50 46 L (.null :: st) μ n Q) : x_V S 50 45 L st μ n Q := x_aload_nN d50_45 hl h
theorem s50_46 {S : Nat × (Nat → Int32)} {L : List (Option Value)} {st : List Value} {n : Nat} {Q : xQ} {μ : xM} {x : Int32} (hl : L[1]? = some (some (.int x))) (h : x_V S 50 47 L (.int x :: st) μ n Q) : x_V S 50 46 L (st) μ n Q := x_iload_n d50_46 hl h
theorem s50_47 {S : Nat × (Nat → Int32)} {L : List (Option Value)} {st : List Value} {n : Nat} {Q : xQ} {g : Nat → Nat → Int} {a : Nat} {x : Int} (hs : x_sh a = (7, 5)) (hp : x_pt a 1 = none) (ha : a ≠ x_out) (h : x_V S 50 50 L (st) (x_vm (x_uf g a 1 x)) n Q) : x_V S 50 47 L (.int (I x) :: .ref a :: st) (x_vm g) n Q := v_put (i := 1) cf7 d50_47 (by decide) rfl w128 hs rfl hp ha h
theorem s50_50 {S : Nat × (Nat → Int32)} {L : List (Option Value)} {st : List Value} {n : Nat} {Q : xQ} {μ : xM} {a : Nat} (hl : L[3]? = some (some (.ref a))) (h : x_V S 50 51 L (.ref a :: st) μ n Q) : x_V S 50 50 L (st) μ n Q := x_aload_n d50_50 hl h
theorem s50_50N {S : Nat × (Nat → Int32)} {L : List (Option Value)} {st : List Value} {n : Nat} {Q : xQ} {μ : xM} (hl : L[3]? = some (some .null)) (h : x_V S 50 51 L (.null :: st) μ n Q) : x_V S 50 50 L st μ n Q := x_aload_nN d50_50 hl h
theorem s50_51 {S : Nat × (Nat → Int32)} {L : List (Option Value)} {st : List Value} {n : Nat} {Q : xQ} {μ : xM} {x : Int32} (hl : L[2]? = some (some (.int x))) (h : x_V S 50 52 L (.int x :: st) μ n Q) : x_V S 50 51 L (st) μ n Q := x_iload_n d50_51 hl h
theorem s50_52 {S : Nat × (Nat → Int32)} {L : List (Option Value)} {st : List Value} {n : Nat} {Q : xQ} {g : Nat → Nat → Int} {a : Nat} {x : Int} (hs : x_sh a = (7, 5)) (hp : x_pt a 2 = none) (ha : a ≠ x_out) (h : x_V S 50 55 L (st) (x_vm (x_uf g a 2 x)) n Q) : x_V S 50 52 L (.int (I x) :: .ref a :: st) (x_vm g) n Q := v_put (i := 2) cf7 d50_52 (by decide) rfl w131 hs rfl hp ha h
theorem s50_55 {S : Nat × (Nat → Int32)} {L : List (Option Value)} {st : List Value} {n : Nat} {Q : xQ} {μ : xM} {a : Nat} (hl : L[3]? = some (some (.ref a))) (h : x_V S 50 56 L (.ref a :: st) μ n Q) : x_V S 50 55 L (st) μ n Q := x_aload_n d50_55 hl h
theorem s50_55N {S : Nat × (Nat → Int32)} {L : List (Option Value)} {st : List Value} {n : Nat} {Q : xQ} {μ : xM} (hl : L[3]? = some (some .null)) (h : x_V S 50 56 L (.null :: st) μ n Q) : x_V S 50 55 L st μ n Q := x_aload_nN d50_55 hl h
theorem s50_56 {S : Nat × (Nat → Int32)} {L : List (Option Value)} {st : List Value} {n : Nat} {Q : xQ} {μ : xM} {v : Value} (hv : v = .null ∨ ∃ a, v = .ref a) (h : Q (.inl (some v)) μ n) : x_V S 50 56 L (v :: []) μ n Q := x_areturn d50_56 rfl (Or.inl ⟨_, rfl⟩) hv h
theorem mC_51 : mC 51 = prog_2_method_6_code := rfl
theorem d51_0 : decode (mC 51) 0 = .ok (.aload_n 0, 1) := by rw [mC_51]; decide +kernel
theorem d51_1 : decode (mC 51) 1 = .ok (.iload_n 1, 1) := by rw [mC_51]; decide +kernel
theorem d51_2 : decode (mC 51) 2 = .ok (.invokevirtual 67, 3) := by rw [mC_51]; decide +kernel
theorem d51_5 : decode (mC 51) 5 = .ok (.astore 4, 2) := by rw [mC_51]; decide +kernel
theorem d51_7 : decode (mC 51) 7 = .ok (.aload 4, 2) := by rw [mC_51]; decide +kernel
theorem d51_9 : decode (mC 51) 9 = .ok (.ifnull 16, 3) := by rw [mC_51]; decide +kernel
theorem d51_12 : decode (mC 51) 12 = .ok (.iload_n 2, 1) := by rw [mC_51]; decide +kernel
theorem d51_13 : decode (mC 51) 13 = .ok (.ifCond .ne 14, 3) := by rw [mC_51]; decide +kernel
theorem d51_16 : decode (mC 51) 16 = .ok (.iload_n 3, 1) := by rw [mC_51]; decide +kernel
theorem d51_17 : decode (mC 51) 17 = .ok (.aload 4, 2) := by rw [mC_51]; decide +kernel
theorem d51_19 : decode (mC 51) 19 = .ok (.getfield 70, 3) := by rw [mC_51]; decide +kernel
theorem d51_22 : decode (mC 51) 22 = .ok (.if_icmp .gt 5, 3) := by rw [mC_51]; decide +kernel
theorem d51_25 : decode (mC 51) 25 = .ok (.aconst_null, 1) := by rw [mC_51]; decide +kernel
theorem d51_26 : decode (mC 51) 26 = .ok (.areturn, 1) := by rw [mC_51]; decide +kernel
theorem d51_27 : decode (mC 51) 27 = .ok (.iload_n 2, 1) := by rw [mC_51]; decide +kernel
theorem d51_28 : decode (mC 51) 28 = .ok (.ifCond .eq 12, 3) := by rw [mC_51]; decide +kernel
theorem d51_31 : decode (mC 51) 31 = .ok (.aload 4, 2) := by rw [mC_51]; decide +kernel
theorem d51_33 : decode (mC 51) 33 = .ok (.iconst 1, 1) := by rw [mC_51]; decide +kernel
theorem d51_34 : decode (mC 51) 34 = .ok (.putfield 73, 3) := by rw [mC_51]; decide +kernel
theorem d51_37 : decode (mC 51) 37 = .ok (.goto 9, 3) := by rw [mC_51]; decide +kernel
theorem d51_40 : decode (mC 51) 40 = .ok (.aload 4, 2) := by rw [mC_51]; decide +kernel
theorem d51_42 : decode (mC 51) 42 = .ok (.iload_n 3, 1) := by rw [mC_51]; decide +kernel
theorem d51_43 : decode (mC 51) 43 = .ok (.putfield 64, 3) := by rw [mC_51]; decide +kernel
theorem d51_46 : decode (mC 51) 46 = .ok (.aload 4, 2) := by rw [mC_51]; decide +kernel
theorem d51_48 : decode (mC 51) 48 = .ok (.areturn, 1) := by rw [mC_51]; decide +kernel
theorem s51_0 {S : Nat × (Nat → Int32)} {L : List (Option Value)} {st : List Value} {n : Nat} {Q : xQ} {μ : xM} {a : Nat} (hl : L[0]? = some (some (.ref a))) (h : x_V S 51 1 L (.ref a :: st) μ n Q) : x_V S 51 0 L (st) μ n Q := x_aload_n d51_0 hl h
theorem s51_0N {S : Nat × (Nat → Int32)} {L : List (Option Value)} {st : List Value} {n : Nat} {Q : xQ} {μ : xM} (hl : L[0]? = some (some .null)) (h : x_V S 51 1 L (.null :: st) μ n Q) : x_V S 51 0 L st μ n Q := x_aload_nN d51_0 hl h
theorem s51_1 {S : Nat × (Nat → Int32)} {L : List (Option Value)} {st : List Value} {n : Nat} {Q : xQ} {μ : xM} {x : Int32} (hl : L[1]? = some (some (.int x))) (h : x_V S 51 2 L (.int x :: st) μ n Q) : x_V S 51 1 L (st) μ n Q := x_iload_n d51_1 hl h
theorem s51_2 {S : Nat × (Nat → Int32)} {L : List (Option Value)} {st : List Value} {n : Nat} {Q : xQ} {μ : xM} {x0 : Int32} {a : Nat} (hs : x_sh a = (6, 4)) (hst : st.length ≤ 4) (h : x_V S 48 0 [some (.ref a), some (.int x0), none] [] μ n (x_bk S 51 2 L st Q)) : x_V S 51 2 L (.int x0 :: .ref a :: st) μ n Q := x_callV (k' := 48) (as := [.int x0]) (na := 1) d51_2 ⟨w594, by decide +kernel, by decide, by decide, by decide, by decide, by decide⟩ cf6 w591 w592 w593 (by decide +kernel) rfl hs (fun v hv => by
    simp only [List.mem_cons, List.not_mem_nil, or_false] at hv
    rcases hv with rfl <;> first | rfl | assumption) hst h
theorem s51_5 {S : Nat × (Nat → Int32)} {L : List (Option Value)} {st : List Value} {n : Nat} {Q : xQ} {μ : xM} {a : Nat} (h : x_V S 51 7 (L.set 4 (some (.ref a))) (st) μ n Q) : x_V S 51 5 L (.ref a :: st) μ n Q := x_astore d51_5 (by decide) h
theorem s51_5N {S : Nat × (Nat → Int32)} {L : List (Option Value)} {st : List Value} {n : Nat} {Q : xQ} {μ : xM} (h : x_V S 51 7 (L.set 4 (some .null)) (st) μ n Q) : x_V S 51 5 L (.null :: st) μ n Q := x_astoreN d51_5 (by decide) h
theorem s51_7 {S : Nat × (Nat → Int32)} {L : List (Option Value)} {st : List Value} {n : Nat} {Q : xQ} {μ : xM} {a : Nat} (hl : L[4]? = some (some (.ref a))) (h : x_V S 51 9 L (.ref a :: st) μ n Q) : x_V S 51 7 L (st) μ n Q := x_aload d51_7 hl h
theorem s51_7N {S : Nat × (Nat → Int32)} {L : List (Option Value)} {st : List Value} {n : Nat} {Q : xQ} {μ : xM} (hl : L[4]? = some (some .null)) (h : x_V S 51 9 L (.null :: st) μ n Q) : x_V S 51 7 L st μ n Q := x_aloadN d51_7 hl h
theorem s51_9 {S : Nat × (Nat → Int32)} {L : List (Option Value)} {st : List Value} {n : Nat} {Q : xQ} {μ : xM} {a : Nat} (h : x_V S 51 12 L (st) μ n Q) : x_V S 51 9 L (.ref a :: st) μ n Q := x_ifnull_n d51_9 h
theorem s51_9N {S : Nat × (Nat → Int32)} {L : List (Option Value)} {st : List Value} {n : Nat} {Q : xQ} {μ : xM} (h : x_V S 51 25 L (st) μ n Q) : x_V S 51 9 L (.null :: st) μ n Q := x_ifnull_y (tgt := 25) (by decide) d51_9 h
theorem s51_12 {S : Nat × (Nat → Int32)} {L : List (Option Value)} {st : List Value} {n : Nat} {Q : xQ} {μ : xM} {x : Int32} (hl : L[2]? = some (some (.int x))) (h : x_V S 51 13 L (.int x :: st) μ n Q) : x_V S 51 12 L (st) μ n Q := x_iload_n d51_12 hl h
theorem s51_13 {S : Nat × (Nat → Int32)} {L : List (Option Value)} {st : List Value} {n : Nat} {Q : xQ} {μ : xM} {x : Int} (hx : ib x) (kt : x ≠ 0 → x_V S 51 27 L (st) μ n Q) (kf : x = 0 → x_V S 51 16 L (st) μ n Q) : x_V S 51 13 L (.int (I x) :: st) μ n Q := v_if_ne d51_13 (by decide) hx kt kf
theorem s51_16 {S : Nat × (Nat → Int32)} {L : List (Option Value)} {st : List Value} {n : Nat} {Q : xQ} {μ : xM} {x : Int32} (hl : L[3]? = some (some (.int x))) (h : x_V S 51 17 L (.int x :: st) μ n Q) : x_V S 51 16 L (st) μ n Q := x_iload_n d51_16 hl h
theorem s51_17 {S : Nat × (Nat → Int32)} {L : List (Option Value)} {st : List Value} {n : Nat} {Q : xQ} {μ : xM} {a : Nat} (hl : L[4]? = some (some (.ref a))) (h : x_V S 51 19 L (.ref a :: st) μ n Q) : x_V S 51 17 L (st) μ n Q := x_aload d51_17 hl h
theorem s51_17N {S : Nat × (Nat → Int32)} {L : List (Option Value)} {st : List Value} {n : Nat} {Q : xQ} {μ : xM} (hl : L[4]? = some (some .null)) (h : x_V S 51 19 L (.null :: st) μ n Q) : x_V S 51 17 L st μ n Q := x_aloadN d51_17 hl h
theorem s51_19 {S : Nat × (Nat → Int32)} {L : List (Option Value)} {st : List Value} {n : Nat} {Q : xQ} {g : Nat → Nat → Int} {a : Nat} (hs : x_sh a = (7, 5)) (hp : x_pt a 3 = none) (ha : a ≠ x_out) (h : x_V S 51 22 L (.int (I (g a 3)) :: st) (x_vm g) n Q) : x_V S 51 19 L (.ref a :: st) (x_vm g) n Q := v_get (i := 3) cf7 d51_19 (by decide) w135 hs hp ha h
theorem s51_22 {S : Nat × (Nat → Int32)} {L : List (Option Value)} {st : List Value} {n : Nat} {Q : xQ} {μ : xM} {x y : Int} (hx : ib x) (hy : ib y) (kt : y < x → x_V S 51 27 L (st) μ n Q) (kf : x ≤ y → x_V S 51 25 L (st) μ n Q) : x_V S 51 22 L (.int (I y) :: .int (I x) :: st) μ n Q := v_icmp_gt d51_22 (by decide) hx hy kt kf
theorem s51_25 {S : Nat × (Nat → Int32)} {L : List (Option Value)} {st : List Value} {n : Nat} {Q : xQ} {μ : xM}  (h : x_V S 51 26 L (.null :: st) μ n Q) : x_V S 51 25 L (st) μ n Q := x_null d51_25 h
theorem s51_26 {S : Nat × (Nat → Int32)} {L : List (Option Value)} {st : List Value} {n : Nat} {Q : xQ} {μ : xM} {v : Value} (hv : v = .null ∨ ∃ a, v = .ref a) (h : Q (.inl (some v)) μ n) : x_V S 51 26 L (v :: []) μ n Q := x_areturn d51_26 rfl (Or.inl ⟨_, rfl⟩) hv h
theorem s51_27 {S : Nat × (Nat → Int32)} {L : List (Option Value)} {st : List Value} {n : Nat} {Q : xQ} {μ : xM} {x : Int32} (hl : L[2]? = some (some (.int x))) (h : x_V S 51 28 L (.int x :: st) μ n Q) : x_V S 51 27 L (st) μ n Q := x_iload_n d51_27 hl h
theorem s51_28 {S : Nat × (Nat → Int32)} {L : List (Option Value)} {st : List Value} {n : Nat} {Q : xQ} {μ : xM} {x : Int} (hx : ib x) (kt : x = 0 → x_V S 51 40 L (st) μ n Q) (kf : x ≠ 0 → x_V S 51 31 L (st) μ n Q) : x_V S 51 28 L (.int (I x) :: st) μ n Q := v_if_eq d51_28 (by decide) hx kt kf
theorem s51_31 {S : Nat × (Nat → Int32)} {L : List (Option Value)} {st : List Value} {n : Nat} {Q : xQ} {μ : xM} {a : Nat} (hl : L[4]? = some (some (.ref a))) (h : x_V S 51 33 L (.ref a :: st) μ n Q) : x_V S 51 31 L (st) μ n Q := x_aload d51_31 hl h
theorem s51_31N {S : Nat × (Nat → Int32)} {L : List (Option Value)} {st : List Value} {n : Nat} {Q : xQ} {μ : xM} (hl : L[4]? = some (some .null)) (h : x_V S 51 33 L (.null :: st) μ n Q) : x_V S 51 31 L st μ n Q := x_aloadN d51_31 hl h
theorem s51_33 {S : Nat × (Nat → Int32)} {L : List (Option Value)} {st : List Value} {n : Nat} {Q : xQ} {μ : xM}  (h : x_V S 51 34 L (.int (I 1) :: st) μ n Q) : x_V S 51 33 L (st) μ n Q := x_iconst (by decide +kernel) d51_33 h
theorem s51_34 {S : Nat × (Nat → Int32)} {L : List (Option Value)} {st : List Value} {n : Nat} {Q : xQ} {g : Nat → Nat → Int} {a : Nat} {x : Int} (hs : x_sh a = (7, 5)) (hx : x = 0 ∨ x = 1) (hp : x_pt a 4 = none) (ha : a ≠ x_out) (h : x_V S 51 37 L (st) (x_vm (x_uf g a 4 x)) n Q) : x_V S 51 34 L (.int (I x) :: .ref a :: st) (x_vm g) n Q := v_putz (i := 4) cf7 d51_34 (by decide) rfl w138 hs rfl hx hp ha h
theorem s51_37 {S : Nat × (Nat → Int32)} {L : List (Option Value)} {st : List Value} {n : Nat} {Q : xQ} {μ : xM}  (h : x_V S 51 46 L (st) μ n Q) : x_V S 51 37 L (st) μ n Q := x_goto (tgt := 46) (by decide) d51_37 h
theorem s51_40 {S : Nat × (Nat → Int32)} {L : List (Option Value)} {st : List Value} {n : Nat} {Q : xQ} {μ : xM} {a : Nat} (hl : L[4]? = some (some (.ref a))) (h : x_V S 51 42 L (.ref a :: st) μ n Q) : x_V S 51 40 L (st) μ n Q := x_aload d51_40 hl h
theorem s51_40N {S : Nat × (Nat → Int32)} {L : List (Option Value)} {st : List Value} {n : Nat} {Q : xQ} {μ : xM} (hl : L[4]? = some (some .null)) (h : x_V S 51 42 L (.null :: st) μ n Q) : x_V S 51 40 L st μ n Q := x_aloadN d51_40 hl h
theorem s51_42 {S : Nat × (Nat → Int32)} {L : List (Option Value)} {st : List Value} {n : Nat} {Q : xQ} {μ : xM} {x : Int32} (hl : L[3]? = some (some (.int x))) (h : x_V S 51 43 L (.int x :: st) μ n Q) : x_V S 51 42 L (st) μ n Q := x_iload_n d51_42 hl h
theorem s51_43 {S : Nat × (Nat → Int32)} {L : List (Option Value)} {st : List Value} {n : Nat} {Q : xQ} {g : Nat → Nat → Int} {a : Nat} {x : Int} (hs : x_sh a = (7, 5)) (hp : x_pt a 2 = none) (ha : a ≠ x_out) (h : x_V S 51 46 L (st) (x_vm (x_uf g a 2 x)) n Q) : x_V S 51 43 L (.int (I x) :: .ref a :: st) (x_vm g) n Q := v_put (i := 2) cf7 d51_43 (by decide) rfl w131 hs rfl hp ha h
theorem s51_46 {S : Nat × (Nat → Int32)} {L : List (Option Value)} {st : List Value} {n : Nat} {Q : xQ} {μ : xM} {a : Nat} (hl : L[4]? = some (some (.ref a))) (h : x_V S 51 48 L (.ref a :: st) μ n Q) : x_V S 51 46 L (st) μ n Q := x_aload d51_46 hl h
theorem s51_46N {S : Nat × (Nat → Int32)} {L : List (Option Value)} {st : List Value} {n : Nat} {Q : xQ} {μ : xM} (hl : L[4]? = some (some .null)) (h : x_V S 51 48 L (.null :: st) μ n Q) : x_V S 51 46 L st μ n Q := x_aloadN d51_46 hl h
theorem s51_48 {S : Nat × (Nat → Int32)} {L : List (Option Value)} {st : List Value} {n : Nat} {Q : xQ} {μ : xM} {v : Value} (hv : v = .null ∨ ∃ a, v = .ref a) (h : Q (.inl (some v)) μ n) : x_V S 51 48 L (v :: []) μ n Q := x_areturn d51_48 rfl (Or.inl ⟨_, rfl⟩) hv h
theorem mC_52 : mC 52 = prog_2_method_7_code := rfl
theorem d52_0 : decode (mC 52) 0 = .ok (.iconst 0, 1) := by rw [mC_52]; decide +kernel
theorem d52_1 : decode (mC 52) 1 = .ok (.istore_n 2, 1) := by rw [mC_52]; decide +kernel
theorem d52_2 : decode (mC 52) 2 = .ok (.iload_n 2, 1) := by rw [mC_52]; decide +kernel
theorem d52_3 : decode (mC 52) 3 = .ok (.aload_n 0, 1) := by rw [mC_52]; decide +kernel
theorem d52_4 : decode (mC 52) 4 = .ok (.getfield 77, 3) := by rw [mC_52]; decide +kernel
theorem d52_7 : decode (mC 52) 7 = .ok (.if_icmp .ge 30, 3) := by rw [mC_52]; decide +kernel
theorem d52_10 : decode (mC 52) 10 = .ok (.iload_n 2, 1) := by rw [mC_52]; decide +kernel
theorem d52_11 : decode (mC 52) 11 = .ok (.aload_n 0, 1) := by rw [mC_52]; decide +kernel
theorem d52_12 : decode (mC 52) 12 = .ok (.getfield 17, 3) := by rw [mC_52]; decide +kernel
theorem d52_15 : decode (mC 52) 15 = .ok (.arraylength, 1) := by rw [mC_52]; decide +kernel
theorem d52_16 : decode (mC 52) 16 = .ok (.if_icmp .ge 21, 3) := by rw [mC_52]; decide +kernel
theorem d52_19 : decode (mC 52) 19 = .ok (.aload_n 0, 1) := by rw [mC_52]; decide +kernel
theorem d52_20 : decode (mC 52) 20 = .ok (.getfield 17, 3) := by rw [mC_52]; decide +kernel
theorem d52_23 : decode (mC 52) 23 = .ok (.iload_n 2, 1) := by rw [mC_52]; decide +kernel
theorem d52_24 : decode (mC 52) 24 = .ok (.iaload, 1) := by rw [mC_52]; decide +kernel
theorem d52_25 : decode (mC 52) 25 = .ok (.iload_n 1, 1) := by rw [mC_52]; decide +kernel
theorem d52_26 : decode (mC 52) 26 = .ok (.if_icmp .ne 5, 3) := by rw [mC_52]; decide +kernel
theorem d52_29 : decode (mC 52) 29 = .ok (.iconst 1, 1) := by rw [mC_52]; decide +kernel
theorem d52_30 : decode (mC 52) 30 = .ok (.ireturn, 1) := by rw [mC_52]; decide +kernel
theorem d52_31 : decode (mC 52) 31 = .ok (.iinc 2 1, 3) := by rw [mC_52]; decide +kernel
theorem d52_34 : decode (mC 52) 34 = .ok (.goto (-32), 3) := by rw [mC_52]; decide +kernel
theorem d52_37 : decode (mC 52) 37 = .ok (.iconst 0, 1) := by rw [mC_52]; decide +kernel
theorem d52_38 : decode (mC 52) 38 = .ok (.ireturn, 1) := by rw [mC_52]; decide +kernel
theorem s52_0 {S : Nat × (Nat → Int32)} {L : List (Option Value)} {st : List Value} {n : Nat} {Q : xQ} {μ : xM}  (h : x_V S 52 1 L (.int (I 0) :: st) μ n Q) : x_V S 52 0 L (st) μ n Q := x_iconst (by decide +kernel) d52_0 h
theorem s52_1 {S : Nat × (Nat → Int32)} {L : List (Option Value)} {st : List Value} {n : Nat} {Q : xQ} {μ : xM} {x : Int32} (h : x_V S 52 2 (L.set 2 (some (.int x))) (st) μ n Q) : x_V S 52 1 L (.int x :: st) μ n Q := x_istore_n d52_1 (by decide) h
theorem s52_2 {S : Nat × (Nat → Int32)} {L : List (Option Value)} {st : List Value} {n : Nat} {Q : xQ} {μ : xM} {x : Int32} (hl : L[2]? = some (some (.int x))) (h : x_V S 52 3 L (.int x :: st) μ n Q) : x_V S 52 2 L (st) μ n Q := x_iload_n d52_2 hl h
theorem s52_3 {S : Nat × (Nat → Int32)} {L : List (Option Value)} {st : List Value} {n : Nat} {Q : xQ} {μ : xM} {a : Nat} (hl : L[0]? = some (some (.ref a))) (h : x_V S 52 4 L (.ref a :: st) μ n Q) : x_V S 52 3 L (st) μ n Q := x_aload_n d52_3 hl h
theorem s52_3N {S : Nat × (Nat → Int32)} {L : List (Option Value)} {st : List Value} {n : Nat} {Q : xQ} {μ : xM} (hl : L[0]? = some (some .null)) (h : x_V S 52 4 L (.null :: st) μ n Q) : x_V S 52 3 L st μ n Q := x_aload_nN d52_3 hl h
theorem s52_4 {S : Nat × (Nat → Int32)} {L : List (Option Value)} {st : List Value} {n : Nat} {Q : xQ} {g : Nat → Nat → Int} {a : Nat} (hs : x_sh a = (6, 4)) (hp : x_pt a 3 = none) (ha : a ≠ x_out) (h : x_V S 52 7 L (.int (I (g a 3)) :: st) (x_vm g) n Q) : x_V S 52 4 L (.ref a :: st) (x_vm g) n Q := v_get (i := 3) cf6 d52_4 (by decide) w154 hs hp ha h
theorem s52_7 {S : Nat × (Nat → Int32)} {L : List (Option Value)} {st : List Value} {n : Nat} {Q : xQ} {μ : xM} {x y : Int} (hx : ib x) (hy : ib y) (kt : y ≤ x → x_V S 52 37 L (st) μ n Q) (kf : x < y → x_V S 52 10 L (st) μ n Q) : x_V S 52 7 L (.int (I y) :: .int (I x) :: st) μ n Q := v_icmp_ge d52_7 (by decide) hx hy kt kf
theorem s52_10 {S : Nat × (Nat → Int32)} {L : List (Option Value)} {st : List Value} {n : Nat} {Q : xQ} {μ : xM} {x : Int32} (hl : L[2]? = some (some (.int x))) (h : x_V S 52 11 L (.int x :: st) μ n Q) : x_V S 52 10 L (st) μ n Q := x_iload_n d52_10 hl h
theorem s52_11 {S : Nat × (Nat → Int32)} {L : List (Option Value)} {st : List Value} {n : Nat} {Q : xQ} {μ : xM} {a : Nat} (hl : L[0]? = some (some (.ref a))) (h : x_V S 52 12 L (.ref a :: st) μ n Q) : x_V S 52 11 L (st) μ n Q := x_aload_n d52_11 hl h
theorem s52_11N {S : Nat × (Nat → Int32)} {L : List (Option Value)} {st : List Value} {n : Nat} {Q : xQ} {μ : xM} (hl : L[0]? = some (some .null)) (h : x_V S 52 12 L (.null :: st) μ n Q) : x_V S 52 11 L st μ n Q := x_aload_nN d52_11 hl h
theorem s52_12 {S : Nat × (Nat → Int32)} {L : List (Option Value)} {st : List Value} {n : Nat} {Q : xQ} {g : Nat → Nat → Int} {a : Nat} {v : Value} (hs : x_sh a = (6, 4)) (hp : x_pt a 2 = some v) (h : x_V S 52 15 L (v :: st) (x_vm g) n Q) : x_V S 52 12 L (.ref a :: st) (x_vm g) n Q := v_getp (i := 2) cf6 d52_12 (by decide) w153 hs hp h
theorem s52_16 {S : Nat × (Nat → Int32)} {L : List (Option Value)} {st : List Value} {n : Nat} {Q : xQ} {μ : xM} {x y : Int} (hx : ib x) (hy : ib y) (kt : y ≤ x → x_V S 52 37 L (st) μ n Q) (kf : x < y → x_V S 52 19 L (st) μ n Q) : x_V S 52 16 L (.int (I y) :: .int (I x) :: st) μ n Q := v_icmp_ge d52_16 (by decide) hx hy kt kf
theorem s52_19 {S : Nat × (Nat → Int32)} {L : List (Option Value)} {st : List Value} {n : Nat} {Q : xQ} {μ : xM} {a : Nat} (hl : L[0]? = some (some (.ref a))) (h : x_V S 52 20 L (.ref a :: st) μ n Q) : x_V S 52 19 L (st) μ n Q := x_aload_n d52_19 hl h
theorem s52_19N {S : Nat × (Nat → Int32)} {L : List (Option Value)} {st : List Value} {n : Nat} {Q : xQ} {μ : xM} (hl : L[0]? = some (some .null)) (h : x_V S 52 20 L (.null :: st) μ n Q) : x_V S 52 19 L st μ n Q := x_aload_nN d52_19 hl h
theorem s52_20 {S : Nat × (Nat → Int32)} {L : List (Option Value)} {st : List Value} {n : Nat} {Q : xQ} {g : Nat → Nat → Int} {a : Nat} {v : Value} (hs : x_sh a = (6, 4)) (hp : x_pt a 2 = some v) (h : x_V S 52 23 L (v :: st) (x_vm g) n Q) : x_V S 52 20 L (.ref a :: st) (x_vm g) n Q := v_getp (i := 2) cf6 d52_20 (by decide) w153 hs hp h
theorem s52_23 {S : Nat × (Nat → Int32)} {L : List (Option Value)} {st : List Value} {n : Nat} {Q : xQ} {μ : xM} {x : Int32} (hl : L[2]? = some (some (.int x))) (h : x_V S 52 24 L (.int x :: st) μ n Q) : x_V S 52 23 L (st) μ n Q := x_iload_n d52_23 hl h
theorem s52_25 {S : Nat × (Nat → Int32)} {L : List (Option Value)} {st : List Value} {n : Nat} {Q : xQ} {μ : xM} {x : Int32} (hl : L[1]? = some (some (.int x))) (h : x_V S 52 26 L (.int x :: st) μ n Q) : x_V S 52 25 L (st) μ n Q := x_iload_n d52_25 hl h
theorem s52_26 {S : Nat × (Nat → Int32)} {L : List (Option Value)} {st : List Value} {n : Nat} {Q : xQ} {μ : xM} {x y : Int} (hx : ib x) (hy : ib y) (kt : x ≠ y → x_V S 52 31 L (st) μ n Q) (kf : x = y → x_V S 52 29 L (st) μ n Q) : x_V S 52 26 L (.int (I y) :: .int (I x) :: st) μ n Q := v_icmp_ne d52_26 (by decide) hx hy kt kf
theorem s52_29 {S : Nat × (Nat → Int32)} {L : List (Option Value)} {st : List Value} {n : Nat} {Q : xQ} {μ : xM}  (h : x_V S 52 30 L (.int (I 1) :: st) μ n Q) : x_V S 52 29 L (st) μ n Q := x_iconst (by decide +kernel) d52_29 h
theorem s52_30 {S : Nat × (Nat → Int32)} {L : List (Option Value)} {st : List Value} {n : Nat} {Q : xQ} {μ : xM} {v : Int} (hv : v = 0 ∨ v = 1) (h : Q (.inl (some (.int (I v)))) μ n) : x_V S 52 30 L (.int (I v) :: []) μ n Q := v_zreturn d52_30 rfl hv h
theorem s52_31 {S : Nat × (Nat → Int32)} {L : List (Option Value)} {st : List Value} {n : Nat} {Q : xQ} {μ : xM} {x : Int} (hl : L[2]? = some (some (.int (I x)))) (h : x_V S 52 34 (L.set 2 (some (.int (I (x + 1))))) (st) μ n Q) : x_V S 52 31 L (st) μ n Q := v_iinc d52_31 hl (by decide) h
theorem s52_34 {S : Nat × (Nat → Int32)} {L : List (Option Value)} {st : List Value} {n : Nat} {Q : xQ} {μ : xM}  (h : x_V S 52 2 L (st) μ n Q) : x_V S 52 34 L (st) μ n Q := x_goto (tgt := 2) (by decide) d52_34 h
theorem s52_37 {S : Nat × (Nat → Int32)} {L : List (Option Value)} {st : List Value} {n : Nat} {Q : xQ} {μ : xM}  (h : x_V S 52 38 L (.int (I 0) :: st) μ n Q) : x_V S 52 37 L (st) μ n Q := x_iconst (by decide +kernel) d52_37 h
theorem s52_38 {S : Nat × (Nat → Int32)} {L : List (Option Value)} {st : List Value} {n : Nat} {Q : xQ} {μ : xM} {v : Int} (hv : v = 0 ∨ v = 1) (h : Q (.inl (some (.int (I v)))) μ n) : x_V S 52 38 L (.int (I v) :: []) μ n Q := v_zreturn d52_38 rfl hv h
theorem mC_53 : mC 53 = prog_2_method_8_code := rfl
theorem d53_0 : decode (mC 53) 0 = .ok (.aload_n 0, 1) := by rw [mC_53]; decide +kernel
theorem d53_1 : decode (mC 53) 1 = .ok (.getfield 77, 3) := by rw [mC_53]; decide +kernel
theorem d53_4 : decode (mC 53) 4 = .ok (.aload_n 0, 1) := by rw [mC_53]; decide +kernel
theorem d53_5 : decode (mC 53) 5 = .ok (.getfield 17, 3) := by rw [mC_53]; decide +kernel
theorem d53_8 : decode (mC 53) 8 = .ok (.arraylength, 1) := by rw [mC_53]; decide +kernel
theorem d53_9 : decode (mC 53) 9 = .ok (.if_icmp .ge 23, 3) := by rw [mC_53]; decide +kernel
theorem d53_12 : decode (mC 53) 12 = .ok (.aload_n 0, 1) := by rw [mC_53]; decide +kernel
theorem d53_13 : decode (mC 53) 13 = .ok (.getfield 17, 3) := by rw [mC_53]; decide +kernel
theorem d53_16 : decode (mC 53) 16 = .ok (.aload_n 0, 1) := by rw [mC_53]; decide +kernel
theorem d53_17 : decode (mC 53) 17 = .ok (.getfield 77, 3) := by rw [mC_53]; decide +kernel
theorem d53_20 : decode (mC 53) 20 = .ok (.iload_n 1, 1) := by rw [mC_53]; decide +kernel
theorem d53_21 : decode (mC 53) 21 = .ok (.iastore, 1) := by rw [mC_53]; decide +kernel
theorem d53_22 : decode (mC 53) 22 = .ok (.aload_n 0, 1) := by rw [mC_53]; decide +kernel
theorem d53_23 : decode (mC 53) 23 = .ok (.dup, 1) := by rw [mC_53]; decide +kernel
theorem d53_24 : decode (mC 53) 24 = .ok (.getfield 77, 3) := by rw [mC_53]; decide +kernel
theorem d53_27 : decode (mC 53) 27 = .ok (.iconst 1, 1) := by rw [mC_53]; decide +kernel
theorem d53_28 : decode (mC 53) 28 = .ok (.iadd, 1) := by rw [mC_53]; decide +kernel
theorem d53_29 : decode (mC 53) 29 = .ok (.putfield 77, 3) := by rw [mC_53]; decide +kernel
theorem d53_32 : decode (mC 53) 32 = .ok (.return_, 1) := by rw [mC_53]; decide +kernel
theorem s53_0 {S : Nat × (Nat → Int32)} {L : List (Option Value)} {st : List Value} {n : Nat} {Q : xQ} {μ : xM} {a : Nat} (hl : L[0]? = some (some (.ref a))) (h : x_V S 53 1 L (.ref a :: st) μ n Q) : x_V S 53 0 L (st) μ n Q := x_aload_n d53_0 hl h
theorem s53_0N {S : Nat × (Nat → Int32)} {L : List (Option Value)} {st : List Value} {n : Nat} {Q : xQ} {μ : xM} (hl : L[0]? = some (some .null)) (h : x_V S 53 1 L (.null :: st) μ n Q) : x_V S 53 0 L st μ n Q := x_aload_nN d53_0 hl h
theorem s53_1 {S : Nat × (Nat → Int32)} {L : List (Option Value)} {st : List Value} {n : Nat} {Q : xQ} {g : Nat → Nat → Int} {a : Nat} (hs : x_sh a = (6, 4)) (hp : x_pt a 3 = none) (ha : a ≠ x_out) (h : x_V S 53 4 L (.int (I (g a 3)) :: st) (x_vm g) n Q) : x_V S 53 1 L (.ref a :: st) (x_vm g) n Q := v_get (i := 3) cf6 d53_1 (by decide) w154 hs hp ha h
theorem s53_4 {S : Nat × (Nat → Int32)} {L : List (Option Value)} {st : List Value} {n : Nat} {Q : xQ} {μ : xM} {a : Nat} (hl : L[0]? = some (some (.ref a))) (h : x_V S 53 5 L (.ref a :: st) μ n Q) : x_V S 53 4 L (st) μ n Q := x_aload_n d53_4 hl h
theorem s53_4N {S : Nat × (Nat → Int32)} {L : List (Option Value)} {st : List Value} {n : Nat} {Q : xQ} {μ : xM} (hl : L[0]? = some (some .null)) (h : x_V S 53 5 L (.null :: st) μ n Q) : x_V S 53 4 L st μ n Q := x_aload_nN d53_4 hl h
theorem s53_5 {S : Nat × (Nat → Int32)} {L : List (Option Value)} {st : List Value} {n : Nat} {Q : xQ} {g : Nat → Nat → Int} {a : Nat} {v : Value} (hs : x_sh a = (6, 4)) (hp : x_pt a 2 = some v) (h : x_V S 53 8 L (v :: st) (x_vm g) n Q) : x_V S 53 5 L (.ref a :: st) (x_vm g) n Q := v_getp (i := 2) cf6 d53_5 (by decide) w153 hs hp h
theorem s53_9 {S : Nat × (Nat → Int32)} {L : List (Option Value)} {st : List Value} {n : Nat} {Q : xQ} {μ : xM} {x y : Int} (hx : ib x) (hy : ib y) (kt : y ≤ x → x_V S 53 32 L (st) μ n Q) (kf : x < y → x_V S 53 12 L (st) μ n Q) : x_V S 53 9 L (.int (I y) :: .int (I x) :: st) μ n Q := v_icmp_ge d53_9 (by decide) hx hy kt kf
theorem s53_12 {S : Nat × (Nat → Int32)} {L : List (Option Value)} {st : List Value} {n : Nat} {Q : xQ} {μ : xM} {a : Nat} (hl : L[0]? = some (some (.ref a))) (h : x_V S 53 13 L (.ref a :: st) μ n Q) : x_V S 53 12 L (st) μ n Q := x_aload_n d53_12 hl h
theorem s53_12N {S : Nat × (Nat → Int32)} {L : List (Option Value)} {st : List Value} {n : Nat} {Q : xQ} {μ : xM} (hl : L[0]? = some (some .null)) (h : x_V S 53 13 L (.null :: st) μ n Q) : x_V S 53 12 L st μ n Q := x_aload_nN d53_12 hl h
theorem s53_13 {S : Nat × (Nat → Int32)} {L : List (Option Value)} {st : List Value} {n : Nat} {Q : xQ} {g : Nat → Nat → Int} {a : Nat} {v : Value} (hs : x_sh a = (6, 4)) (hp : x_pt a 2 = some v) (h : x_V S 53 16 L (v :: st) (x_vm g) n Q) : x_V S 53 13 L (.ref a :: st) (x_vm g) n Q := v_getp (i := 2) cf6 d53_13 (by decide) w153 hs hp h
theorem s53_16 {S : Nat × (Nat → Int32)} {L : List (Option Value)} {st : List Value} {n : Nat} {Q : xQ} {μ : xM} {a : Nat} (hl : L[0]? = some (some (.ref a))) (h : x_V S 53 17 L (.ref a :: st) μ n Q) : x_V S 53 16 L (st) μ n Q := x_aload_n d53_16 hl h
theorem s53_16N {S : Nat × (Nat → Int32)} {L : List (Option Value)} {st : List Value} {n : Nat} {Q : xQ} {μ : xM} (hl : L[0]? = some (some .null)) (h : x_V S 53 17 L (.null :: st) μ n Q) : x_V S 53 16 L st μ n Q := x_aload_nN d53_16 hl h
theorem s53_17 {S : Nat × (Nat → Int32)} {L : List (Option Value)} {st : List Value} {n : Nat} {Q : xQ} {g : Nat → Nat → Int} {a : Nat} (hs : x_sh a = (6, 4)) (hp : x_pt a 3 = none) (ha : a ≠ x_out) (h : x_V S 53 20 L (.int (I (g a 3)) :: st) (x_vm g) n Q) : x_V S 53 17 L (.ref a :: st) (x_vm g) n Q := v_get (i := 3) cf6 d53_17 (by decide) w154 hs hp ha h
theorem s53_20 {S : Nat × (Nat → Int32)} {L : List (Option Value)} {st : List Value} {n : Nat} {Q : xQ} {μ : xM} {x : Int32} (hl : L[1]? = some (some (.int x))) (h : x_V S 53 21 L (.int x :: st) μ n Q) : x_V S 53 20 L (st) μ n Q := x_iload_n d53_20 hl h
theorem s53_22 {S : Nat × (Nat → Int32)} {L : List (Option Value)} {st : List Value} {n : Nat} {Q : xQ} {μ : xM} {a : Nat} (hl : L[0]? = some (some (.ref a))) (h : x_V S 53 23 L (.ref a :: st) μ n Q) : x_V S 53 22 L (st) μ n Q := x_aload_n d53_22 hl h
theorem s53_22N {S : Nat × (Nat → Int32)} {L : List (Option Value)} {st : List Value} {n : Nat} {Q : xQ} {μ : xM} (hl : L[0]? = some (some .null)) (h : x_V S 53 23 L (.null :: st) μ n Q) : x_V S 53 22 L st μ n Q := x_aload_nN d53_22 hl h
theorem s53_23 {S : Nat × (Nat → Int32)} {L : List (Option Value)} {st : List Value} {n : Nat} {Q : xQ} {μ : xM} {v : Value} (hc : v.category = 1) (h : x_V S 53 24 L (v :: v :: st) μ n Q) : x_V S 53 23 L (v :: st) μ n Q := x_dup hc d53_23 h
theorem s53_24 {S : Nat × (Nat → Int32)} {L : List (Option Value)} {st : List Value} {n : Nat} {Q : xQ} {g : Nat → Nat → Int} {a : Nat} (hs : x_sh a = (6, 4)) (hp : x_pt a 3 = none) (ha : a ≠ x_out) (h : x_V S 53 27 L (.int (I (g a 3)) :: st) (x_vm g) n Q) : x_V S 53 24 L (.ref a :: st) (x_vm g) n Q := v_get (i := 3) cf6 d53_24 (by decide) w154 hs hp ha h
theorem s53_27 {S : Nat × (Nat → Int32)} {L : List (Option Value)} {st : List Value} {n : Nat} {Q : xQ} {μ : xM}  (h : x_V S 53 28 L (.int (I 1) :: st) μ n Q) : x_V S 53 27 L (st) μ n Q := x_iconst (by decide +kernel) d53_27 h
theorem s53_28 {S : Nat × (Nat → Int32)} {L : List (Option Value)} {st : List Value} {n : Nat} {Q : xQ} {μ : xM} {x y : Int} (h : x_V S 53 29 L (.int (I (x + y)) :: st) μ n Q) : x_V S 53 28 L (.int (I y) :: .int (I x) :: st) μ n Q := v_iadd d53_28 h
theorem s53_29 {S : Nat × (Nat → Int32)} {L : List (Option Value)} {st : List Value} {n : Nat} {Q : xQ} {g : Nat → Nat → Int} {a : Nat} {x : Int} (hs : x_sh a = (6, 4)) (hp : x_pt a 3 = none) (ha : a ≠ x_out) (h : x_V S 53 32 L (st) (x_vm (x_uf g a 3 x)) n Q) : x_V S 53 29 L (.int (I x) :: .ref a :: st) (x_vm g) n Q := v_put (i := 3) cf6 d53_29 (by decide) rfl w154 hs rfl hp ha h
theorem s53_32 {S : Nat × (Nat → Int32)} {L : List (Option Value)} {st : List Value} {n : Nat} {Q : xQ} {μ : xM}  (h : Q (.inl none) μ n) : x_V S 53 32 L ([]) μ n Q := x_return d53_32 rfl h
