/-! 13.s-session: decode rows and step rows of TradeLink$Session; laid by a program. -/
theorem mC_54 : mC 54 = prog_9_method_1_code := rfl
theorem d54_0 : decode (mC 54) 0 = .ok (.aload_n 0, 1) := by rw [mC_54]; decide +kernel
theorem d54_1 : decode (mC 54) 1 = .ok (.invokespecial 3, 3) := by rw [mC_54]; decide +kernel
theorem d54_4 : decode (mC 54) 4 = .ok (.aload_n 0, 1) := by rw [mC_54]; decide +kernel
theorem d54_5 : decode (mC 54) 5 = .ok (.new 9, 3) := by rw [mC_54]; decide +kernel
theorem d54_8 : decode (mC 54) 8 = .ok (.dup, 1) := by rw [mC_54]; decide +kernel
theorem d54_9 : decode (mC 54) 9 = .ok (.invokespecial 11, 3) := by rw [mC_54]; decide +kernel
theorem d54_12 : decode (mC 54) 12 = .ok (.putfield 12, 3) := by rw [mC_54]; decide +kernel
theorem d54_15 : decode (mC 54) 15 = .ok (.aload_n 0, 1) := by rw [mC_54]; decide +kernel
theorem d54_16 : decode (mC 54) 16 = .ok (.new 18, 3) := by rw [mC_54]; decide +kernel
theorem d54_19 : decode (mC 54) 19 = .ok (.dup, 1) := by rw [mC_54]; decide +kernel
theorem d54_20 : decode (mC 54) 20 = .ok (.invokespecial 20, 3) := by rw [mC_54]; decide +kernel
theorem d54_23 : decode (mC 54) 23 = .ok (.putfield 21, 3) := by rw [mC_54]; decide +kernel
theorem d54_26 : decode (mC 54) 26 = .ok (.aload_n 0, 1) := by rw [mC_54]; decide +kernel
theorem d54_27 : decode (mC 54) 27 = .ok (.new 25, 3) := by rw [mC_54]; decide +kernel
theorem d54_30 : decode (mC 54) 30 = .ok (.dup, 1) := by rw [mC_54]; decide +kernel
theorem d54_31 : decode (mC 54) 31 = .ok (.invokespecial 27, 3) := by rw [mC_54]; decide +kernel
theorem d54_34 : decode (mC 54) 34 = .ok (.putfield 28, 3) := by rw [mC_54]; decide +kernel
theorem d54_37 : decode (mC 54) 37 = .ok (.aload_n 0, 1) := by rw [mC_54]; decide +kernel
theorem d54_38 : decode (mC 54) 38 = .ok (.iconst 1, 1) := by rw [mC_54]; decide +kernel
theorem d54_39 : decode (mC 54) 39 = .ok (.putfield 32, 3) := by rw [mC_54]; decide +kernel
theorem d54_42 : decode (mC 54) 42 = .ok (.aload_n 0, 1) := by rw [mC_54]; decide +kernel
theorem d54_43 : decode (mC 54) 43 = .ok (.iconst 1, 1) := by rw [mC_54]; decide +kernel
theorem d54_44 : decode (mC 54) 44 = .ok (.putfield 36, 3) := by rw [mC_54]; decide +kernel
theorem d54_47 : decode (mC 54) 47 = .ok (.return_, 1) := by rw [mC_54]; decide +kernel
theorem s54_0 {S : Nat × (Nat → Int32)} {L : List (Option Value)} {st : List Value} {n : Nat} {Q : xQ} {μ : xM} {a : Nat} (hl : L[0]? = some (some (.ref a))) (h : x_V S 54 1 L (.ref a :: st) μ n Q) : x_V S 54 0 L (st) μ n Q := x_aload_n d54_0 hl h
theorem s54_0N {S : Nat × (Nat → Int32)} {L : List (Option Value)} {st : List Value} {n : Nat} {Q : xQ} {μ : xM} (hl : L[0]? = some (some .null)) (h : x_V S 54 1 L (.null :: st) μ n Q) : x_V S 54 0 L st μ n Q := x_aload_nN d54_0 hl h
theorem s54_1 {S : Nat × (Nat → Int32)} {L : List (Option Value)} {st : List Value} {n : Nat} {Q : xQ} {μ : xM} {a : Nat} (hst : st.length ≤ 4) (h : x_V S 54 4 L (st) μ n Q) : x_V S 54 1 L (.ref a :: st) μ n Q := x_objInit d54_1 w91 w26 w27 ⟨by decide, by decide⟩ hst h
theorem s54_4 {S : Nat × (Nat → Int32)} {L : List (Option Value)} {st : List Value} {n : Nat} {Q : xQ} {μ : xM} {a : Nat} (hl : L[0]? = some (some (.ref a))) (h : x_V S 54 5 L (.ref a :: st) μ n Q) : x_V S 54 4 L (st) μ n Q := x_aload_n d54_4 hl h
theorem s54_4N {S : Nat × (Nat → Int32)} {L : List (Option Value)} {st : List Value} {n : Nat} {Q : xQ} {μ : xM} (hl : L[0]? = some (some .null)) (h : x_V S 54 5 L (.null :: st) μ n Q) : x_V S 54 4 L st μ n Q := x_aload_nN d54_4 hl h
theorem s54_5 {S : Nat × (Nat → Int32)} {L : List (Option Value)} {st : List Value} {n : Nat} {Q : xQ} {μ : xM}  (hs : x_sh n = (5, 3)) (hn : n < x_NM) (h : x_V S 54 8 L (.ref n :: st) (x_nw μ n (fun i => defaultValue (xt5 i))) (n + 1) Q) : x_V S 54 5 L (st) μ n Q := x_new cf5 d54_5 w92 hs hn h
theorem s54_8 {S : Nat × (Nat → Int32)} {L : List (Option Value)} {st : List Value} {n : Nat} {Q : xQ} {μ : xM} {v : Value} (hc : v.category = 1) (h : x_V S 54 9 L (v :: v :: st) μ n Q) : x_V S 54 8 L (v :: st) μ n Q := x_dup hc d54_8 h
theorem s54_9 {S : Nat × (Nat → Int32)} {L : List (Option Value)} {st : List Value} {n : Nat} {Q : xQ} {μ : xM}  {a : Nat} (hst : st.length ≤ 4) (h : x_V S 37 0 [some (.ref a), none] [] μ n (x_bk S 54 9 L st Q)) : x_V S 54 9 L (.ref a :: st) μ n Q := x_callI (k' := 37) (as := []) (na := 0) d54_9 ⟨w96, by decide +kernel, by decide, by decide, by decide, by decide, by decide⟩ rfl rfl rfl w94 w95 (by decide +kernel) rfl (fun v hv => by
    cases hv) hst h
theorem s54_12 {S : Nat × (Nat → Int32)} {L : List (Option Value)} {st : List Value} {n : Nat} {Q : xQ} {μ : xM} {a b : Nat} (hs : x_sh a = (4, 12)) (h : x_V S 54 15 L (st) (x_up μ a 0 (.ref b)) n Q) : x_V S 54 12 L (.ref b :: .ref a :: st) μ n Q := x_putF (i := 0) cf4 d54_12 (by decide) rfl rfl rfl w178 hs (fun _ => ⟨rfl, rfl⟩) h
theorem s54_15 {S : Nat × (Nat → Int32)} {L : List (Option Value)} {st : List Value} {n : Nat} {Q : xQ} {μ : xM} {a : Nat} (hl : L[0]? = some (some (.ref a))) (h : x_V S 54 16 L (.ref a :: st) μ n Q) : x_V S 54 15 L (st) μ n Q := x_aload_n d54_15 hl h
theorem s54_15N {S : Nat × (Nat → Int32)} {L : List (Option Value)} {st : List Value} {n : Nat} {Q : xQ} {μ : xM} (hl : L[0]? = some (some .null)) (h : x_V S 54 16 L (.null :: st) μ n Q) : x_V S 54 15 L st μ n Q := x_aload_nN d54_15 hl h
theorem s54_16 {S : Nat × (Nat → Int32)} {L : List (Option Value)} {st : List Value} {n : Nat} {Q : xQ} {μ : xM}  (hs : x_sh n = (6, 4)) (hn : n < x_NM) (h : x_V S 54 19 L (.ref n :: st) (x_nw μ n (fun i => defaultValue (xt6 i))) (n + 1) Q) : x_V S 54 16 L (st) μ n Q := x_new cf6 d54_16 w114 hs hn h
theorem s54_19 {S : Nat × (Nat → Int32)} {L : List (Option Value)} {st : List Value} {n : Nat} {Q : xQ} {μ : xM} {v : Value} (hc : v.category = 1) (h : x_V S 54 20 L (v :: v :: st) μ n Q) : x_V S 54 19 L (v :: st) μ n Q := x_dup hc d54_19 h
theorem s54_20 {S : Nat × (Nat → Int32)} {L : List (Option Value)} {st : List Value} {n : Nat} {Q : xQ} {μ : xM}  {a : Nat} (hst : st.length ≤ 4) (h : x_V S 46 0 [some (.ref a), none] [] μ n (x_bk S 54 20 L st Q)) : x_V S 54 20 L (.ref a :: st) μ n Q := x_callI (k' := 46) (as := []) (na := 0) d54_20 ⟨w118, by decide +kernel, by decide, by decide, by decide, by decide, by decide⟩ rfl rfl rfl w116 w117 (by decide +kernel) rfl (fun v hv => by
    cases hv) hst h
theorem s54_23 {S : Nat × (Nat → Int32)} {L : List (Option Value)} {st : List Value} {n : Nat} {Q : xQ} {μ : xM} {a b : Nat} (hs : x_sh a = (4, 12)) (h : x_V S 54 26 L (st) (x_up μ a 1 (.ref b)) n Q) : x_V S 54 23 L (.ref b :: .ref a :: st) μ n Q := x_putF (i := 1) cf4 d54_23 (by decide) rfl rfl rfl w180 hs (fun _ => ⟨rfl, rfl⟩) h
theorem s54_26 {S : Nat × (Nat → Int32)} {L : List (Option Value)} {st : List Value} {n : Nat} {Q : xQ} {μ : xM} {a : Nat} (hl : L[0]? = some (some (.ref a))) (h : x_V S 54 27 L (.ref a :: st) μ n Q) : x_V S 54 26 L (st) μ n Q := x_aload_n d54_26 hl h
theorem s54_26N {S : Nat × (Nat → Int32)} {L : List (Option Value)} {st : List Value} {n : Nat} {Q : xQ} {μ : xM} (hl : L[0]? = some (some .null)) (h : x_V S 54 27 L (.null :: st) μ n Q) : x_V S 54 26 L st μ n Q := x_aload_nN d54_26 hl h
theorem s54_27 {S : Nat × (Nat → Int32)} {L : List (Option Value)} {st : List Value} {n : Nat} {Q : xQ} {μ : xM}  (hs : x_sh n = (8, 2)) (hn : n < x_NM) (h : x_V S 54 30 L (.ref n :: st) (x_nw μ n (fun i => defaultValue (xt8 i))) (n + 1) Q) : x_V S 54 27 L (st) μ n Q := x_new cf8 d54_27 w164 hs hn h
theorem s54_30 {S : Nat × (Nat → Int32)} {L : List (Option Value)} {st : List Value} {n : Nat} {Q : xQ} {μ : xM} {v : Value} (hc : v.category = 1) (h : x_V S 54 31 L (v :: v :: st) μ n Q) : x_V S 54 30 L (v :: st) μ n Q := x_dup hc d54_30 h
theorem s54_31 {S : Nat × (Nat → Int32)} {L : List (Option Value)} {st : List Value} {n : Nat} {Q : xQ} {μ : xM}  {a : Nat} (hst : st.length ≤ 4) (h : x_V S 42 0 [some (.ref a)] [] μ n (x_bk S 54 31 L st Q)) : x_V S 54 31 L (.ref a :: st) μ n Q := x_callIN (k' := 42) (as := []) (na := 0) d54_31 ⟨w168, by decide +kernel, by decide, by decide, by decide, by decide, by decide⟩ rfl rfl rfl w166 w167 (by decide +kernel) rfl (fun v hv => by
    cases hv) hst h
theorem s54_34 {S : Nat × (Nat → Int32)} {L : List (Option Value)} {st : List Value} {n : Nat} {Q : xQ} {μ : xM} {a b : Nat} (hs : x_sh a = (4, 12)) (h : x_V S 54 37 L (st) (x_up μ a 2 (.ref b)) n Q) : x_V S 54 34 L (.ref b :: .ref a :: st) μ n Q := x_putF (i := 2) cf4 d54_34 (by decide) rfl rfl rfl w182 hs (fun _ => ⟨rfl, rfl⟩) h
theorem s54_37 {S : Nat × (Nat → Int32)} {L : List (Option Value)} {st : List Value} {n : Nat} {Q : xQ} {μ : xM} {a : Nat} (hl : L[0]? = some (some (.ref a))) (h : x_V S 54 38 L (.ref a :: st) μ n Q) : x_V S 54 37 L (st) μ n Q := x_aload_n d54_37 hl h
theorem s54_37N {S : Nat × (Nat → Int32)} {L : List (Option Value)} {st : List Value} {n : Nat} {Q : xQ} {μ : xM} (hl : L[0]? = some (some .null)) (h : x_V S 54 38 L (.null :: st) μ n Q) : x_V S 54 37 L st μ n Q := x_aload_nN d54_37 hl h
theorem s54_38 {S : Nat × (Nat → Int32)} {L : List (Option Value)} {st : List Value} {n : Nat} {Q : xQ} {μ : xM}  (h : x_V S 54 39 L (.int (I 1) :: st) μ n Q) : x_V S 54 38 L (st) μ n Q := x_iconst (by decide +kernel) d54_38 h
theorem s54_39 {S : Nat × (Nat → Int32)} {L : List (Option Value)} {st : List Value} {n : Nat} {Q : xQ} {μ : xM} {a : Nat} {x : Int} (hs : x_sh a = (4, 12)) (h : x_V S 54 42 L (st) (x_up μ a 3 (.int (I x))) n Q) : x_V S 54 39 L (.int (I x) :: .ref a :: st) μ n Q := x_put (i := 3) cf4 d54_39 (by decide) rfl w183 hs (fun _ => ⟨rfl, rfl⟩) h
theorem s54_42 {S : Nat × (Nat → Int32)} {L : List (Option Value)} {st : List Value} {n : Nat} {Q : xQ} {μ : xM} {a : Nat} (hl : L[0]? = some (some (.ref a))) (h : x_V S 54 43 L (.ref a :: st) μ n Q) : x_V S 54 42 L (st) μ n Q := x_aload_n d54_42 hl h
theorem s54_42N {S : Nat × (Nat → Int32)} {L : List (Option Value)} {st : List Value} {n : Nat} {Q : xQ} {μ : xM} (hl : L[0]? = some (some .null)) (h : x_V S 54 43 L (.null :: st) μ n Q) : x_V S 54 42 L st μ n Q := x_aload_nN d54_42 hl h
theorem s54_43 {S : Nat × (Nat → Int32)} {L : List (Option Value)} {st : List Value} {n : Nat} {Q : xQ} {μ : xM}  (h : x_V S 54 44 L (.int (I 1) :: st) μ n Q) : x_V S 54 43 L (st) μ n Q := x_iconst (by decide +kernel) d54_43 h
theorem s54_44 {S : Nat × (Nat → Int32)} {L : List (Option Value)} {st : List Value} {n : Nat} {Q : xQ} {μ : xM} {a : Nat} {x : Int} (hs : x_sh a = (4, 12)) (h : x_V S 54 47 L (st) (x_up μ a 4 (.int (I x))) n Q) : x_V S 54 44 L (.int (I x) :: .ref a :: st) μ n Q := x_put (i := 4) cf4 d54_44 (by decide) rfl w185 hs (fun _ => ⟨rfl, rfl⟩) h
theorem s54_47 {S : Nat × (Nat → Int32)} {L : List (Option Value)} {st : List Value} {n : Nat} {Q : xQ} {μ : xM}  (h : Q (.inl none) μ n) : x_V S 54 47 L ([]) μ n Q := x_return d54_47 rfl h
theorem mC_55 : mC 55 = prog_9_method_2_code := rfl
theorem d55_0 : decode (mC 55) 0 = .ok (.aload_n 0, 1) := by rw [mC_55]; decide +kernel
theorem d55_1 : decode (mC 55) 1 = .ok (.getfield 39, 3) := by rw [mC_55]; decide +kernel
theorem d55_4 : decode (mC 55) 4 = .ok (.ifCond .ne 14, 3) := by rw [mC_55]; decide +kernel
theorem d55_7 : decode (mC 55) 7 = .ok (.aload_n 1, 1) := by rw [mC_55]; decide +kernel
theorem d55_8 : decode (mC 55) 8 = .ok (.getfield 43, 3) := by rw [mC_55]; decide +kernel
theorem d55_11 : decode (mC 55) 11 = .ok (.bipush 65, 2) := by rw [mC_55]; decide +kernel
theorem d55_13 : decode (mC 55) 13 = .ok (.if_icmp .eq 5, 3) := by rw [mC_55]; decide +kernel
theorem d55_16 : decode (mC 55) 16 = .ok (.iconst 1, 1) := by rw [mC_55]; decide +kernel
theorem d55_17 : decode (mC 55) 17 = .ok (.ireturn, 1) := by rw [mC_55]; decide +kernel
theorem d55_18 : decode (mC 55) 18 = .ok (.aload_n 0, 1) := by rw [mC_55]; decide +kernel
theorem d55_19 : decode (mC 55) 19 = .ok (.aload_n 0, 1) := by rw [mC_55]; decide +kernel
theorem d55_20 : decode (mC 55) 20 = .ok (.getfield 48, 3) := by rw [mC_55]; decide +kernel
theorem d55_23 : decode (mC 55) 23 = .ok (.putfield 51, 3) := by rw [mC_55]; decide +kernel
theorem d55_26 : decode (mC 55) 26 = .ok (.aload_n 1, 1) := by rw [mC_55]; decide +kernel
theorem d55_27 : decode (mC 55) 27 = .ok (.getfield 43, 3) := by rw [mC_55]; decide +kernel
theorem d55_30 : decode (mC 55) 30 = .ok (.bipush 52, 2) := by rw [mC_55]; decide +kernel
theorem d55_32 : decode (mC 55) 32 = .ok (.if_icmp .ne 29, 3) := by rw [mC_55]; decide +kernel
theorem d55_35 : decode (mC 55) 35 = .ok (.aload_n 1, 1) := by rw [mC_55]; decide +kernel
theorem d55_36 : decode (mC 55) 36 = .ok (.invokevirtual 54, 3) := by rw [mC_55]; decide +kernel
theorem d55_39 : decode (mC 55) 39 = .ok (.ifCond .ne 22, 3) := by rw [mC_55]; decide +kernel
theorem d55_42 : decode (mC 55) 42 = .ok (.aload_n 0, 1) := by rw [mC_55]; decide +kernel
theorem d55_43 : decode (mC 55) 43 = .ok (.aload_n 1, 1) := by rw [mC_55]; decide +kernel
theorem d55_44 : decode (mC 55) 44 = .ok (.getfield 58, 3) := by rw [mC_55]; decide +kernel
theorem d55_47 : decode (mC 55) 47 = .ok (.iconst 0, 1) := by rw [mC_55]; decide +kernel
theorem d55_48 : decode (mC 55) 48 = .ok (.iaload, 1) := by rw [mC_55]; decide +kernel
theorem d55_49 : decode (mC 55) 49 = .ok (.invokevirtual 62, 3) := by rw [mC_55]; decide +kernel
theorem d55_52 : decode (mC 55) 52 = .ok (.ifCond .eq 7, 3) := by rw [mC_55]; decide +kernel
theorem d55_55 : decode (mC 55) 55 = .ok (.iconst 2, 1) := by rw [mC_55]; decide +kernel
theorem d55_56 : decode (mC 55) 56 = .ok (.goto 4, 3) := by rw [mC_55]; decide +kernel
theorem d55_59 : decode (mC 55) 59 = .ok (.iconst 1, 1) := by rw [mC_55]; decide +kernel
theorem d55_60 : decode (mC 55) 60 = .ok (.ireturn, 1) := by rw [mC_55]; decide +kernel
theorem d55_61 : decode (mC 55) 61 = .ok (.aload_n 1, 1) := by rw [mC_55]; decide +kernel
theorem d55_62 : decode (mC 55) 62 = .ok (.getfield 66, 3) := by rw [mC_55]; decide +kernel
theorem d55_65 : decode (mC 55) 65 = .ok (.aload_n 0, 1) := by rw [mC_55]; decide +kernel
theorem d55_66 : decode (mC 55) 66 = .ok (.getfield 32, 3) := by rw [mC_55]; decide +kernel
theorem d55_69 : decode (mC 55) 69 = .ok (.if_icmp .ge 12, 3) := by rw [mC_55]; decide +kernel
theorem d55_72 : decode (mC 55) 72 = .ok (.aload_n 0, 1) := by rw [mC_55]; decide +kernel
theorem d55_73 : decode (mC 55) 73 = .ok (.aload_n 1, 1) := by rw [mC_55]; decide +kernel
theorem d55_74 : decode (mC 55) 74 = .ok (.getfield 69, 3) := by rw [mC_55]; decide +kernel
theorem d55_77 : decode (mC 55) 77 = .ok (.invokevirtual 72, 3) := by rw [mC_55]; decide +kernel
theorem d55_80 : decode (mC 55) 80 = .ok (.ireturn, 1) := by rw [mC_55]; decide +kernel
theorem d55_81 : decode (mC 55) 81 = .ok (.aload_n 0, 1) := by rw [mC_55]; decide +kernel
theorem d55_82 : decode (mC 55) 82 = .ok (.getfield 39, 3) := by rw [mC_55]; decide +kernel
theorem d55_85 : decode (mC 55) 85 = .ok (.ifCond .ne 21, 3) := by rw [mC_55]; decide +kernel
theorem d55_88 : decode (mC 55) 88 = .ok (.aload_n 0, 1) := by rw [mC_55]; decide +kernel
theorem d55_89 : decode (mC 55) 89 = .ok (.iconst 1, 1) := by rw [mC_55]; decide +kernel
theorem d55_90 : decode (mC 55) 90 = .ok (.putfield 39, 3) := by rw [mC_55]; decide +kernel
theorem d55_93 : decode (mC 55) 93 = .ok (.aload_n 0, 1) := by rw [mC_55]; decide +kernel
theorem d55_94 : decode (mC 55) 94 = .ok (.bipush 65, 2) := by rw [mC_55]; decide +kernel
theorem d55_96 : decode (mC 55) 96 = .ok (.aload_n 1, 1) := by rw [mC_55]; decide +kernel
theorem d55_97 : decode (mC 55) 97 = .ok (.getfield 58, 3) := by rw [mC_55]; decide +kernel
theorem d55_100 : decode (mC 55) 100 = .ok (.iconst 0, 1) := by rw [mC_55]; decide +kernel
theorem d55_101 : decode (mC 55) 101 = .ok (.iaload, 1) := by rw [mC_55]; decide +kernel
theorem d55_102 : decode (mC 55) 102 = .ok (.iconst 0, 1) := by rw [mC_55]; decide +kernel
theorem d55_103 : decode (mC 55) 103 = .ok (.invokevirtual 76, 3) := by rw [mC_55]; decide +kernel
theorem d55_106 : decode (mC 55) 106 = .ok (.aload_n 1, 1) := by rw [mC_55]; decide +kernel
theorem d55_107 : decode (mC 55) 107 = .ok (.getfield 66, 3) := by rw [mC_55]; decide +kernel
theorem d55_110 : decode (mC 55) 110 = .ok (.aload_n 0, 1) := by rw [mC_55]; decide +kernel
theorem d55_111 : decode (mC 55) 111 = .ok (.getfield 32, 3) := by rw [mC_55]; decide +kernel
theorem d55_114 : decode (mC 55) 114 = .ok (.if_icmp .le 9, 3) := by rw [mC_55]; decide +kernel
theorem d55_117 : decode (mC 55) 117 = .ok (.aload_n 0, 1) := by rw [mC_55]; decide +kernel
theorem d55_118 : decode (mC 55) 118 = .ok (.aload_n 1, 1) := by rw [mC_55]; decide +kernel
theorem d55_119 : decode (mC 55) 119 = .ok (.invokevirtual 80, 3) := by rw [mC_55]; decide +kernel
theorem d55_122 : decode (mC 55) 122 = .ok (.ireturn, 1) := by rw [mC_55]; decide +kernel
theorem d55_123 : decode (mC 55) 123 = .ok (.aload_n 0, 1) := by rw [mC_55]; decide +kernel
theorem d55_124 : decode (mC 55) 124 = .ok (.aload_n 0, 1) := by rw [mC_55]; decide +kernel
theorem d55_125 : decode (mC 55) 125 = .ok (.getfield 32, 3) := by rw [mC_55]; decide +kernel
theorem d55_128 : decode (mC 55) 128 = .ok (.iconst 1, 1) := by rw [mC_55]; decide +kernel
theorem d55_129 : decode (mC 55) 129 = .ok (.iadd, 1) := by rw [mC_55]; decide +kernel
theorem d55_130 : decode (mC 55) 130 = .ok (.invokevirtual 62, 3) := by rw [mC_55]; decide +kernel
theorem d55_133 : decode (mC 55) 133 = .ok (.pop, 1) := by rw [mC_55]; decide +kernel
theorem d55_134 : decode (mC 55) 134 = .ok (.aload_n 0, 1) := by rw [mC_55]; decide +kernel
theorem d55_135 : decode (mC 55) 135 = .ok (.aload_n 1, 1) := by rw [mC_55]; decide +kernel
theorem d55_136 : decode (mC 55) 136 = .ok (.invokevirtual 84, 3) := by rw [mC_55]; decide +kernel
theorem d55_139 : decode (mC 55) 139 = .ok (.iconst 2, 1) := by rw [mC_55]; decide +kernel
theorem d55_140 : decode (mC 55) 140 = .ok (.ireturn, 1) := by rw [mC_55]; decide +kernel
theorem s55_0 {S : Nat × (Nat → Int32)} {L : List (Option Value)} {st : List Value} {n : Nat} {Q : xQ} {μ : xM} {a : Nat} (hl : L[0]? = some (some (.ref a))) (h : x_V S 55 1 L (.ref a :: st) μ n Q) : x_V S 55 0 L (st) μ n Q := x_aload_n d55_0 hl h
theorem s55_0N {S : Nat × (Nat → Int32)} {L : List (Option Value)} {st : List Value} {n : Nat} {Q : xQ} {μ : xM} (hl : L[0]? = some (some .null)) (h : x_V S 55 1 L (.null :: st) μ n Q) : x_V S 55 0 L st μ n Q := x_aload_nN d55_0 hl h
theorem s55_1 {S : Nat × (Nat → Int32)} {L : List (Option Value)} {st : List Value} {n : Nat} {Q : xQ} {g : Nat → Nat → Int} {a : Nat} (hs : x_sh a = (4, 12)) (hp : x_pt a 6 = none) (ha : a ≠ x_out) (h : x_V S 55 4 L (.int (I (g a 6)) :: st) (x_vm g) n Q) : x_V S 55 1 L (.ref a :: st) (x_vm g) n Q := v_get (i := 6) cf4 d55_1 (by decide) w189 hs hp ha h
theorem s55_4 {S : Nat × (Nat → Int32)} {L : List (Option Value)} {st : List Value} {n : Nat} {Q : xQ} {μ : xM} {x : Int} (hx : ib x) (kt : x ≠ 0 → x_V S 55 18 L (st) μ n Q) (kf : x = 0 → x_V S 55 7 L (st) μ n Q) : x_V S 55 4 L (.int (I x) :: st) μ n Q := v_if_ne d55_4 (by decide) hx kt kf
theorem s55_7 {S : Nat × (Nat → Int32)} {L : List (Option Value)} {st : List Value} {n : Nat} {Q : xQ} {μ : xM} {a : Nat} (hl : L[1]? = some (some (.ref a))) (h : x_V S 55 8 L (.ref a :: st) μ n Q) : x_V S 55 7 L (st) μ n Q := x_aload_n d55_7 hl h
theorem s55_7N {S : Nat × (Nat → Int32)} {L : List (Option Value)} {st : List Value} {n : Nat} {Q : xQ} {μ : xM} (hl : L[1]? = some (some .null)) (h : x_V S 55 8 L (.null :: st) μ n Q) : x_V S 55 7 L st μ n Q := x_aload_nN d55_7 hl h
theorem s55_8 {S : Nat × (Nat → Int32)} {L : List (Option Value)} {st : List Value} {n : Nat} {Q : xQ} {g : Nat → Nat → Int} {a : Nat} (hs : x_sh a = (3, 4)) (hp : x_pt a 0 = none) (ha : a ≠ x_out) (h : x_V S 55 11 L (.int (I (g a 0)) :: st) (x_vm g) n Q) : x_V S 55 8 L (.ref a :: st) (x_vm g) n Q := v_get (i := 0) cf3 d55_8 (by decide) w66 hs hp ha h
theorem s55_11 {S : Nat × (Nat → Int32)} {L : List (Option Value)} {st : List Value} {n : Nat} {Q : xQ} {μ : xM}  (h : x_V S 55 13 L (.int (I 65) :: st) μ n Q) : x_V S 55 11 L (st) μ n Q := x_bipush (by decide +kernel) d55_11 h
theorem s55_13 {S : Nat × (Nat → Int32)} {L : List (Option Value)} {st : List Value} {n : Nat} {Q : xQ} {μ : xM} {x y : Int} (hx : ib x) (hy : ib y) (kt : x = y → x_V S 55 18 L (st) μ n Q) (kf : x ≠ y → x_V S 55 16 L (st) μ n Q) : x_V S 55 13 L (.int (I y) :: .int (I x) :: st) μ n Q := v_icmp_eq d55_13 (by decide) hx hy kt kf
theorem s55_16 {S : Nat × (Nat → Int32)} {L : List (Option Value)} {st : List Value} {n : Nat} {Q : xQ} {μ : xM}  (h : x_V S 55 17 L (.int (I 1) :: st) μ n Q) : x_V S 55 16 L (st) μ n Q := x_iconst (by decide +kernel) d55_16 h
theorem s55_17 {S : Nat × (Nat → Int32)} {L : List (Option Value)} {st : List Value} {n : Nat} {Q : xQ} {μ : xM} {x : Int32} (h : Q (.inl (some (.int x))) μ n) : x_V S 55 17 L (.int x :: []) μ n Q := x_ireturn d55_17 rfl rfl h
theorem s55_18 {S : Nat × (Nat → Int32)} {L : List (Option Value)} {st : List Value} {n : Nat} {Q : xQ} {μ : xM} {a : Nat} (hl : L[0]? = some (some (.ref a))) (h : x_V S 55 19 L (.ref a :: st) μ n Q) : x_V S 55 18 L (st) μ n Q := x_aload_n d55_18 hl h
theorem s55_18N {S : Nat × (Nat → Int32)} {L : List (Option Value)} {st : List Value} {n : Nat} {Q : xQ} {μ : xM} (hl : L[0]? = some (some .null)) (h : x_V S 55 19 L (.null :: st) μ n Q) : x_V S 55 18 L st μ n Q := x_aload_nN d55_18 hl h
theorem s55_19 {S : Nat × (Nat → Int32)} {L : List (Option Value)} {st : List Value} {n : Nat} {Q : xQ} {μ : xM} {a : Nat} (hl : L[0]? = some (some (.ref a))) (h : x_V S 55 20 L (.ref a :: st) μ n Q) : x_V S 55 19 L (st) μ n Q := x_aload_n d55_19 hl h
theorem s55_19N {S : Nat × (Nat → Int32)} {L : List (Option Value)} {st : List Value} {n : Nat} {Q : xQ} {μ : xM} (hl : L[0]? = some (some .null)) (h : x_V S 55 20 L (.null :: st) μ n Q) : x_V S 55 19 L st μ n Q := x_aload_nN d55_19 hl h
theorem s55_20 {S : Nat × (Nat → Int32)} {L : List (Option Value)} {st : List Value} {n : Nat} {Q : xQ} {g : Nat → Nat → Int} {a : Nat} (hs : x_sh a = (4, 12)) (hp : x_pt a 7 = none) (ha : a ≠ x_out) (h : x_V S 55 23 L (.int (I (g a 7)) :: st) (x_vm g) n Q) : x_V S 55 20 L (.ref a :: st) (x_vm g) n Q := v_get (i := 7) cf4 d55_20 (by decide) w191 hs hp ha h
theorem s55_23 {S : Nat × (Nat → Int32)} {L : List (Option Value)} {st : List Value} {n : Nat} {Q : xQ} {g : Nat → Nat → Int} {a : Nat} {x : Int} (hs : x_sh a = (4, 12)) (hp : x_pt a 9 = none) (ha : a ≠ x_out) (h : x_V S 55 26 L (st) (x_vm (x_uf g a 9 x)) n Q) : x_V S 55 23 L (.int (I x) :: .ref a :: st) (x_vm g) n Q := v_put (i := 9) cf4 d55_23 (by decide) rfl w195 hs rfl hp ha h
theorem s55_26 {S : Nat × (Nat → Int32)} {L : List (Option Value)} {st : List Value} {n : Nat} {Q : xQ} {μ : xM} {a : Nat} (hl : L[1]? = some (some (.ref a))) (h : x_V S 55 27 L (.ref a :: st) μ n Q) : x_V S 55 26 L (st) μ n Q := x_aload_n d55_26 hl h
theorem s55_26N {S : Nat × (Nat → Int32)} {L : List (Option Value)} {st : List Value} {n : Nat} {Q : xQ} {μ : xM} (hl : L[1]? = some (some .null)) (h : x_V S 55 27 L (.null :: st) μ n Q) : x_V S 55 26 L st μ n Q := x_aload_nN d55_26 hl h
theorem s55_27 {S : Nat × (Nat → Int32)} {L : List (Option Value)} {st : List Value} {n : Nat} {Q : xQ} {g : Nat → Nat → Int} {a : Nat} (hs : x_sh a = (3, 4)) (hp : x_pt a 0 = none) (ha : a ≠ x_out) (h : x_V S 55 30 L (.int (I (g a 0)) :: st) (x_vm g) n Q) : x_V S 55 27 L (.ref a :: st) (x_vm g) n Q := v_get (i := 0) cf3 d55_27 (by decide) w66 hs hp ha h
theorem s55_30 {S : Nat × (Nat → Int32)} {L : List (Option Value)} {st : List Value} {n : Nat} {Q : xQ} {μ : xM}  (h : x_V S 55 32 L (.int (I 52) :: st) μ n Q) : x_V S 55 30 L (st) μ n Q := x_bipush (by decide +kernel) d55_30 h
theorem s55_32 {S : Nat × (Nat → Int32)} {L : List (Option Value)} {st : List Value} {n : Nat} {Q : xQ} {μ : xM} {x y : Int} (hx : ib x) (hy : ib y) (kt : x ≠ y → x_V S 55 61 L (st) μ n Q) (kf : x = y → x_V S 55 35 L (st) μ n Q) : x_V S 55 32 L (.int (I y) :: .int (I x) :: st) μ n Q := v_icmp_ne d55_32 (by decide) hx hy kt kf
theorem s55_35 {S : Nat × (Nat → Int32)} {L : List (Option Value)} {st : List Value} {n : Nat} {Q : xQ} {μ : xM} {a : Nat} (hl : L[1]? = some (some (.ref a))) (h : x_V S 55 36 L (.ref a :: st) μ n Q) : x_V S 55 35 L (st) μ n Q := x_aload_n d55_35 hl h
theorem s55_35N {S : Nat × (Nat → Int32)} {L : List (Option Value)} {st : List Value} {n : Nat} {Q : xQ} {μ : xM} (hl : L[1]? = some (some .null)) (h : x_V S 55 36 L (.null :: st) μ n Q) : x_V S 55 35 L st μ n Q := x_aload_nN d55_35 hl h
theorem s55_36 {S : Nat × (Nat → Int32)} {L : List (Option Value)} {st : List Value} {n : Nat} {Q : xQ} {μ : xM}  {a : Nat} (hs : x_sh a = (3, 4)) (hst : st.length ≤ 4) (h : x_V S 24 0 [some (.ref a)] [] μ n (x_bk S 55 36 L st Q)) : x_V S 55 36 L (.ref a :: st) μ n Q := x_callV (k' := 24) (as := []) (na := 0) d55_36 ⟨w410, by decide +kernel, by decide, by decide, by decide, by decide, by decide⟩ cf3 w538 w408 w409 (by decide +kernel) rfl hs (fun v hv => by
    cases hv) hst h
theorem s55_39 {S : Nat × (Nat → Int32)} {L : List (Option Value)} {st : List Value} {n : Nat} {Q : xQ} {μ : xM} {x : Int} (hx : ib x) (kt : x ≠ 0 → x_V S 55 61 L (st) μ n Q) (kf : x = 0 → x_V S 55 42 L (st) μ n Q) : x_V S 55 39 L (.int (I x) :: st) μ n Q := v_if_ne d55_39 (by decide) hx kt kf
theorem s55_42 {S : Nat × (Nat → Int32)} {L : List (Option Value)} {st : List Value} {n : Nat} {Q : xQ} {μ : xM} {a : Nat} (hl : L[0]? = some (some (.ref a))) (h : x_V S 55 43 L (.ref a :: st) μ n Q) : x_V S 55 42 L (st) μ n Q := x_aload_n d55_42 hl h
theorem s55_42N {S : Nat × (Nat → Int32)} {L : List (Option Value)} {st : List Value} {n : Nat} {Q : xQ} {μ : xM} (hl : L[0]? = some (some .null)) (h : x_V S 55 43 L (.null :: st) μ n Q) : x_V S 55 42 L st μ n Q := x_aload_nN d55_42 hl h
theorem s55_43 {S : Nat × (Nat → Int32)} {L : List (Option Value)} {st : List Value} {n : Nat} {Q : xQ} {μ : xM} {a : Nat} (hl : L[1]? = some (some (.ref a))) (h : x_V S 55 44 L (.ref a :: st) μ n Q) : x_V S 55 43 L (st) μ n Q := x_aload_n d55_43 hl h
theorem s55_43N {S : Nat × (Nat → Int32)} {L : List (Option Value)} {st : List Value} {n : Nat} {Q : xQ} {μ : xM} (hl : L[1]? = some (some .null)) (h : x_V S 55 44 L (.null :: st) μ n Q) : x_V S 55 43 L st μ n Q := x_aload_nN d55_43 hl h
theorem s55_44 {S : Nat × (Nat → Int32)} {L : List (Option Value)} {st : List Value} {n : Nat} {Q : xQ} {g : Nat → Nat → Int} {a : Nat} {v : Value} (hs : x_sh a = (3, 4)) (hp : x_pt a 3 = some v) (h : x_V S 55 47 L (v :: st) (x_vm g) n Q) : x_V S 55 44 L (.ref a :: st) (x_vm g) n Q := v_getp (i := 3) cf3 d55_44 (by decide) w74 hs hp h
theorem s55_47 {S : Nat × (Nat → Int32)} {L : List (Option Value)} {st : List Value} {n : Nat} {Q : xQ} {μ : xM}  (h : x_V S 55 48 L (.int (I 0) :: st) μ n Q) : x_V S 55 47 L (st) μ n Q := x_iconst (by decide +kernel) d55_47 h
theorem s55_49 {S : Nat × (Nat → Int32)} {L : List (Option Value)} {st : List Value} {n : Nat} {Q : xQ} {μ : xM} {x0 : Int32} {a : Nat} (hs : x_sh a = (4, 12)) (hst : st.length ≤ 4) (h : x_V S 62 0 [some (.ref a), some (.int x0)] [] μ n (x_bk S 55 49 L st Q)) : x_V S 55 49 L (.int x0 :: .ref a :: st) μ n Q := x_callV (k' := 62) (as := [.int x0]) (na := 1) d55_49 ⟨w542, by decide +kernel, by decide, by decide, by decide, by decide, by decide⟩ cf4 w539 w541 wp14 (by decide +kernel) rfl hs (fun v hv => by
    simp only [List.mem_cons, List.not_mem_nil, or_false] at hv
    rcases hv with rfl <;> first | rfl | assumption) hst h
theorem s55_52 {S : Nat × (Nat → Int32)} {L : List (Option Value)} {st : List Value} {n : Nat} {Q : xQ} {μ : xM} {x : Int} (hx : ib x) (kt : x = 0 → x_V S 55 59 L (st) μ n Q) (kf : x ≠ 0 → x_V S 55 55 L (st) μ n Q) : x_V S 55 52 L (.int (I x) :: st) μ n Q := v_if_eq d55_52 (by decide) hx kt kf
theorem s55_55 {S : Nat × (Nat → Int32)} {L : List (Option Value)} {st : List Value} {n : Nat} {Q : xQ} {μ : xM}  (h : x_V S 55 56 L (.int (I 2) :: st) μ n Q) : x_V S 55 55 L (st) μ n Q := x_iconst (by decide +kernel) d55_55 h
theorem s55_56 {S : Nat × (Nat → Int32)} {L : List (Option Value)} {st : List Value} {n : Nat} {Q : xQ} {μ : xM}  (h : x_V S 55 60 L (st) μ n Q) : x_V S 55 56 L (st) μ n Q := x_goto (tgt := 60) (by decide) d55_56 h
theorem s55_59 {S : Nat × (Nat → Int32)} {L : List (Option Value)} {st : List Value} {n : Nat} {Q : xQ} {μ : xM}  (h : x_V S 55 60 L (.int (I 1) :: st) μ n Q) : x_V S 55 59 L (st) μ n Q := x_iconst (by decide +kernel) d55_59 h
theorem s55_60 {S : Nat × (Nat → Int32)} {L : List (Option Value)} {st : List Value} {n : Nat} {Q : xQ} {μ : xM} {x : Int32} (h : Q (.inl (some (.int x))) μ n) : x_V S 55 60 L (.int x :: []) μ n Q := x_ireturn d55_60 rfl rfl h
theorem s55_61 {S : Nat × (Nat → Int32)} {L : List (Option Value)} {st : List Value} {n : Nat} {Q : xQ} {μ : xM} {a : Nat} (hl : L[1]? = some (some (.ref a))) (h : x_V S 55 62 L (.ref a :: st) μ n Q) : x_V S 55 61 L (st) μ n Q := x_aload_n d55_61 hl h
theorem s55_61N {S : Nat × (Nat → Int32)} {L : List (Option Value)} {st : List Value} {n : Nat} {Q : xQ} {μ : xM} (hl : L[1]? = some (some .null)) (h : x_V S 55 62 L (.null :: st) μ n Q) : x_V S 55 61 L st μ n Q := x_aload_nN d55_61 hl h
theorem s55_62 {S : Nat × (Nat → Int32)} {L : List (Option Value)} {st : List Value} {n : Nat} {Q : xQ} {g : Nat → Nat → Int} {a : Nat} (hs : x_sh a = (3, 4)) (hp : x_pt a 1 = none) (ha : a ≠ x_out) (h : x_V S 55 65 L (.int (I (g a 1)) :: st) (x_vm g) n Q) : x_V S 55 62 L (.ref a :: st) (x_vm g) n Q := v_get (i := 1) cf3 d55_62 (by decide) w70 hs hp ha h
theorem s55_65 {S : Nat × (Nat → Int32)} {L : List (Option Value)} {st : List Value} {n : Nat} {Q : xQ} {μ : xM} {a : Nat} (hl : L[0]? = some (some (.ref a))) (h : x_V S 55 66 L (.ref a :: st) μ n Q) : x_V S 55 65 L (st) μ n Q := x_aload_n d55_65 hl h
theorem s55_65N {S : Nat × (Nat → Int32)} {L : List (Option Value)} {st : List Value} {n : Nat} {Q : xQ} {μ : xM} (hl : L[0]? = some (some .null)) (h : x_V S 55 66 L (.null :: st) μ n Q) : x_V S 55 65 L st μ n Q := x_aload_nN d55_65 hl h
theorem s55_66 {S : Nat × (Nat → Int32)} {L : List (Option Value)} {st : List Value} {n : Nat} {Q : xQ} {g : Nat → Nat → Int} {a : Nat} (hs : x_sh a = (4, 12)) (hp : x_pt a 3 = none) (ha : a ≠ x_out) (h : x_V S 55 69 L (.int (I (g a 3)) :: st) (x_vm g) n Q) : x_V S 55 66 L (.ref a :: st) (x_vm g) n Q := v_get (i := 3) cf4 d55_66 (by decide) w183 hs hp ha h
theorem s55_69 {S : Nat × (Nat → Int32)} {L : List (Option Value)} {st : List Value} {n : Nat} {Q : xQ} {μ : xM} {x y : Int} (hx : ib x) (hy : ib y) (kt : y ≤ x → x_V S 55 81 L (st) μ n Q) (kf : x < y → x_V S 55 72 L (st) μ n Q) : x_V S 55 69 L (.int (I y) :: .int (I x) :: st) μ n Q := v_icmp_ge d55_69 (by decide) hx hy kt kf
theorem s55_72 {S : Nat × (Nat → Int32)} {L : List (Option Value)} {st : List Value} {n : Nat} {Q : xQ} {μ : xM} {a : Nat} (hl : L[0]? = some (some (.ref a))) (h : x_V S 55 73 L (.ref a :: st) μ n Q) : x_V S 55 72 L (st) μ n Q := x_aload_n d55_72 hl h
theorem s55_72N {S : Nat × (Nat → Int32)} {L : List (Option Value)} {st : List Value} {n : Nat} {Q : xQ} {μ : xM} (hl : L[0]? = some (some .null)) (h : x_V S 55 73 L (.null :: st) μ n Q) : x_V S 55 72 L st μ n Q := x_aload_nN d55_72 hl h
theorem s55_73 {S : Nat × (Nat → Int32)} {L : List (Option Value)} {st : List Value} {n : Nat} {Q : xQ} {μ : xM} {a : Nat} (hl : L[1]? = some (some (.ref a))) (h : x_V S 55 74 L (.ref a :: st) μ n Q) : x_V S 55 73 L (st) μ n Q := x_aload_n d55_73 hl h
theorem s55_73N {S : Nat × (Nat → Int32)} {L : List (Option Value)} {st : List Value} {n : Nat} {Q : xQ} {μ : xM} (hl : L[1]? = some (some .null)) (h : x_V S 55 74 L (.null :: st) μ n Q) : x_V S 55 73 L st μ n Q := x_aload_nN d55_73 hl h
theorem s55_74 {S : Nat × (Nat → Int32)} {L : List (Option Value)} {st : List Value} {n : Nat} {Q : xQ} {g : Nat → Nat → Int} {a : Nat} (hs : x_sh a = (3, 4)) (hp : x_pt a 2 = none) (ha : a ≠ x_out) (h : x_V S 55 77 L (.int (I (g a 2)) :: st) (x_vm g) n Q) : x_V S 55 74 L (.ref a :: st) (x_vm g) n Q := v_get (i := 2) cf3 d55_74 (by decide) w72 hs hp ha h
theorem s55_77 {S : Nat × (Nat → Int32)} {L : List (Option Value)} {st : List Value} {n : Nat} {Q : xQ} {μ : xM} {x0 : Int32} {a : Nat} (hs : x_sh a = (4, 12)) (hst : st.length ≤ 4) (h : x_V S 59 0 [some (.ref a), some (.int x0)] [] μ n (x_bk S 55 77 L st Q)) : x_V S 55 77 L (.int x0 :: .ref a :: st) μ n Q := x_callV (k' := 59) (as := [.int x0]) (na := 1) d55_77 ⟨w546, by decide +kernel, by decide, by decide, by decide, by decide, by decide⟩ cf4 w543 w545 wp15 (by decide +kernel) rfl hs (fun v hv => by
    simp only [List.mem_cons, List.not_mem_nil, or_false] at hv
    rcases hv with rfl <;> first | rfl | assumption) hst h
theorem s55_80 {S : Nat × (Nat → Int32)} {L : List (Option Value)} {st : List Value} {n : Nat} {Q : xQ} {μ : xM} {x : Int32} (h : Q (.inl (some (.int x))) μ n) : x_V S 55 80 L (.int x :: []) μ n Q := x_ireturn d55_80 rfl rfl h
theorem s55_81 {S : Nat × (Nat → Int32)} {L : List (Option Value)} {st : List Value} {n : Nat} {Q : xQ} {μ : xM} {a : Nat} (hl : L[0]? = some (some (.ref a))) (h : x_V S 55 82 L (.ref a :: st) μ n Q) : x_V S 55 81 L (st) μ n Q := x_aload_n d55_81 hl h
theorem s55_81N {S : Nat × (Nat → Int32)} {L : List (Option Value)} {st : List Value} {n : Nat} {Q : xQ} {μ : xM} (hl : L[0]? = some (some .null)) (h : x_V S 55 82 L (.null :: st) μ n Q) : x_V S 55 81 L st μ n Q := x_aload_nN d55_81 hl h
theorem s55_82 {S : Nat × (Nat → Int32)} {L : List (Option Value)} {st : List Value} {n : Nat} {Q : xQ} {g : Nat → Nat → Int} {a : Nat} (hs : x_sh a = (4, 12)) (hp : x_pt a 6 = none) (ha : a ≠ x_out) (h : x_V S 55 85 L (.int (I (g a 6)) :: st) (x_vm g) n Q) : x_V S 55 82 L (.ref a :: st) (x_vm g) n Q := v_get (i := 6) cf4 d55_82 (by decide) w189 hs hp ha h
theorem s55_85 {S : Nat × (Nat → Int32)} {L : List (Option Value)} {st : List Value} {n : Nat} {Q : xQ} {μ : xM} {x : Int} (hx : ib x) (kt : x ≠ 0 → x_V S 55 106 L (st) μ n Q) (kf : x = 0 → x_V S 55 88 L (st) μ n Q) : x_V S 55 85 L (.int (I x) :: st) μ n Q := v_if_ne d55_85 (by decide) hx kt kf
theorem s55_88 {S : Nat × (Nat → Int32)} {L : List (Option Value)} {st : List Value} {n : Nat} {Q : xQ} {μ : xM} {a : Nat} (hl : L[0]? = some (some (.ref a))) (h : x_V S 55 89 L (.ref a :: st) μ n Q) : x_V S 55 88 L (st) μ n Q := x_aload_n d55_88 hl h
theorem s55_88N {S : Nat × (Nat → Int32)} {L : List (Option Value)} {st : List Value} {n : Nat} {Q : xQ} {μ : xM} (hl : L[0]? = some (some .null)) (h : x_V S 55 89 L (.null :: st) μ n Q) : x_V S 55 88 L st μ n Q := x_aload_nN d55_88 hl h
theorem s55_89 {S : Nat × (Nat → Int32)} {L : List (Option Value)} {st : List Value} {n : Nat} {Q : xQ} {μ : xM}  (h : x_V S 55 90 L (.int (I 1) :: st) μ n Q) : x_V S 55 89 L (st) μ n Q := x_iconst (by decide +kernel) d55_89 h
theorem s55_90 {S : Nat × (Nat → Int32)} {L : List (Option Value)} {st : List Value} {n : Nat} {Q : xQ} {g : Nat → Nat → Int} {a : Nat} {x : Int} (hs : x_sh a = (4, 12)) (hx : x = 0 ∨ x = 1) (hp : x_pt a 6 = none) (ha : a ≠ x_out) (h : x_V S 55 93 L (st) (x_vm (x_uf g a 6 x)) n Q) : x_V S 55 90 L (.int (I x) :: .ref a :: st) (x_vm g) n Q := v_putz (i := 6) cf4 d55_90 (by decide) rfl w189 hs rfl hx hp ha h
theorem s55_93 {S : Nat × (Nat → Int32)} {L : List (Option Value)} {st : List Value} {n : Nat} {Q : xQ} {μ : xM} {a : Nat} (hl : L[0]? = some (some (.ref a))) (h : x_V S 55 94 L (.ref a :: st) μ n Q) : x_V S 55 93 L (st) μ n Q := x_aload_n d55_93 hl h
theorem s55_93N {S : Nat × (Nat → Int32)} {L : List (Option Value)} {st : List Value} {n : Nat} {Q : xQ} {μ : xM} (hl : L[0]? = some (some .null)) (h : x_V S 55 94 L (.null :: st) μ n Q) : x_V S 55 93 L st μ n Q := x_aload_nN d55_93 hl h
theorem s55_94 {S : Nat × (Nat → Int32)} {L : List (Option Value)} {st : List Value} {n : Nat} {Q : xQ} {μ : xM}  (h : x_V S 55 96 L (.int (I 65) :: st) μ n Q) : x_V S 55 94 L (st) μ n Q := x_bipush (by decide +kernel) d55_94 h
theorem s55_96 {S : Nat × (Nat → Int32)} {L : List (Option Value)} {st : List Value} {n : Nat} {Q : xQ} {μ : xM} {a : Nat} (hl : L[1]? = some (some (.ref a))) (h : x_V S 55 97 L (.ref a :: st) μ n Q) : x_V S 55 96 L (st) μ n Q := x_aload_n d55_96 hl h
theorem s55_96N {S : Nat × (Nat → Int32)} {L : List (Option Value)} {st : List Value} {n : Nat} {Q : xQ} {μ : xM} (hl : L[1]? = some (some .null)) (h : x_V S 55 97 L (.null :: st) μ n Q) : x_V S 55 96 L st μ n Q := x_aload_nN d55_96 hl h
theorem s55_97 {S : Nat × (Nat → Int32)} {L : List (Option Value)} {st : List Value} {n : Nat} {Q : xQ} {g : Nat → Nat → Int} {a : Nat} {v : Value} (hs : x_sh a = (3, 4)) (hp : x_pt a 3 = some v) (h : x_V S 55 100 L (v :: st) (x_vm g) n Q) : x_V S 55 97 L (.ref a :: st) (x_vm g) n Q := v_getp (i := 3) cf3 d55_97 (by decide) w74 hs hp h
theorem s55_100 {S : Nat × (Nat → Int32)} {L : List (Option Value)} {st : List Value} {n : Nat} {Q : xQ} {μ : xM}  (h : x_V S 55 101 L (.int (I 0) :: st) μ n Q) : x_V S 55 100 L (st) μ n Q := x_iconst (by decide +kernel) d55_100 h
theorem s55_102 {S : Nat × (Nat → Int32)} {L : List (Option Value)} {st : List Value} {n : Nat} {Q : xQ} {μ : xM}  (h : x_V S 55 103 L (.int (I 0) :: st) μ n Q) : x_V S 55 102 L (st) μ n Q := x_iconst (by decide +kernel) d55_102 h
theorem s55_103 {S : Nat × (Nat → Int32)} {L : List (Option Value)} {st : List Value} {n : Nat} {Q : xQ} {μ : xM} {x0 : Int32} {x1 : Int32} {x2 : Int32} {a : Nat} (hs : x_sh a = (4, 12)) (hst : st.length ≤ 4) (h : x_V S 65 0 [some (.ref a), some (.int x0), some (.int x1), some (.int x2)] [] μ n (x_bk S 55 103 L st Q)) : x_V S 55 103 L (.int x2 :: .int x1 :: .int x0 :: .ref a :: st) μ n Q := x_callV (k' := 65) (as := [.int x0, .int x1, .int x2]) (na := 3) d55_103 ⟨w252, by decide +kernel, by decide, by decide, by decide, by decide, by decide⟩ cf4 w249 w251 wp1 (by decide +kernel) rfl hs (fun v hv => by
    simp only [List.mem_cons, List.not_mem_nil, or_false] at hv
    rcases hv with rfl | rfl | rfl <;> first | rfl | assumption) hst h
theorem s55_106 {S : Nat × (Nat → Int32)} {L : List (Option Value)} {st : List Value} {n : Nat} {Q : xQ} {μ : xM} {a : Nat} (hl : L[1]? = some (some (.ref a))) (h : x_V S 55 107 L (.ref a :: st) μ n Q) : x_V S 55 106 L (st) μ n Q := x_aload_n d55_106 hl h
theorem s55_106N {S : Nat × (Nat → Int32)} {L : List (Option Value)} {st : List Value} {n : Nat} {Q : xQ} {μ : xM} (hl : L[1]? = some (some .null)) (h : x_V S 55 107 L (.null :: st) μ n Q) : x_V S 55 106 L st μ n Q := x_aload_nN d55_106 hl h
theorem s55_107 {S : Nat × (Nat → Int32)} {L : List (Option Value)} {st : List Value} {n : Nat} {Q : xQ} {g : Nat → Nat → Int} {a : Nat} (hs : x_sh a = (3, 4)) (hp : x_pt a 1 = none) (ha : a ≠ x_out) (h : x_V S 55 110 L (.int (I (g a 1)) :: st) (x_vm g) n Q) : x_V S 55 107 L (.ref a :: st) (x_vm g) n Q := v_get (i := 1) cf3 d55_107 (by decide) w70 hs hp ha h
theorem s55_110 {S : Nat × (Nat → Int32)} {L : List (Option Value)} {st : List Value} {n : Nat} {Q : xQ} {μ : xM} {a : Nat} (hl : L[0]? = some (some (.ref a))) (h : x_V S 55 111 L (.ref a :: st) μ n Q) : x_V S 55 110 L (st) μ n Q := x_aload_n d55_110 hl h
theorem s55_110N {S : Nat × (Nat → Int32)} {L : List (Option Value)} {st : List Value} {n : Nat} {Q : xQ} {μ : xM} (hl : L[0]? = some (some .null)) (h : x_V S 55 111 L (.null :: st) μ n Q) : x_V S 55 110 L st μ n Q := x_aload_nN d55_110 hl h
theorem s55_111 {S : Nat × (Nat → Int32)} {L : List (Option Value)} {st : List Value} {n : Nat} {Q : xQ} {g : Nat → Nat → Int} {a : Nat} (hs : x_sh a = (4, 12)) (hp : x_pt a 3 = none) (ha : a ≠ x_out) (h : x_V S 55 114 L (.int (I (g a 3)) :: st) (x_vm g) n Q) : x_V S 55 111 L (.ref a :: st) (x_vm g) n Q := v_get (i := 3) cf4 d55_111 (by decide) w183 hs hp ha h
theorem s55_114 {S : Nat × (Nat → Int32)} {L : List (Option Value)} {st : List Value} {n : Nat} {Q : xQ} {μ : xM} {x y : Int} (hx : ib x) (hy : ib y) (kt : x ≤ y → x_V S 55 123 L (st) μ n Q) (kf : y < x → x_V S 55 117 L (st) μ n Q) : x_V S 55 114 L (.int (I y) :: .int (I x) :: st) μ n Q := v_icmp_le d55_114 (by decide) hx hy kt kf
theorem s55_117 {S : Nat × (Nat → Int32)} {L : List (Option Value)} {st : List Value} {n : Nat} {Q : xQ} {μ : xM} {a : Nat} (hl : L[0]? = some (some (.ref a))) (h : x_V S 55 118 L (.ref a :: st) μ n Q) : x_V S 55 117 L (st) μ n Q := x_aload_n d55_117 hl h
theorem s55_117N {S : Nat × (Nat → Int32)} {L : List (Option Value)} {st : List Value} {n : Nat} {Q : xQ} {μ : xM} (hl : L[0]? = some (some .null)) (h : x_V S 55 118 L (.null :: st) μ n Q) : x_V S 55 117 L st μ n Q := x_aload_nN d55_117 hl h
theorem s55_118 {S : Nat × (Nat → Int32)} {L : List (Option Value)} {st : List Value} {n : Nat} {Q : xQ} {μ : xM} {a : Nat} (hl : L[1]? = some (some (.ref a))) (h : x_V S 55 119 L (.ref a :: st) μ n Q) : x_V S 55 118 L (st) μ n Q := x_aload_n d55_118 hl h
theorem s55_118N {S : Nat × (Nat → Int32)} {L : List (Option Value)} {st : List Value} {n : Nat} {Q : xQ} {μ : xM} (hl : L[1]? = some (some .null)) (h : x_V S 55 119 L (.null :: st) μ n Q) : x_V S 55 118 L st μ n Q := x_aload_nN d55_118 hl h
theorem s55_119 {S : Nat × (Nat → Int32)} {L : List (Option Value)} {st : List Value} {n : Nat} {Q : xQ} {μ : xM} {v0 : Value} (hc0 : v0.category = 1) {a : Nat} (hs : x_sh a = (4, 12)) (hst : st.length ≤ 4) (h : x_V S 60 0 [some (.ref a), some (v0)] [] μ n (x_bk S 55 119 L st Q)) : x_V S 55 119 L (v0 :: .ref a :: st) μ n Q := x_callV (k' := 60) (as := [v0]) (na := 1) d55_119 ⟨w550, by decide +kernel, by decide, by decide, by decide, by decide, by decide⟩ cf4 w547 w549 wp16 (by decide +kernel) rfl hs (fun v hv => by
    simp only [List.mem_cons, List.not_mem_nil, or_false] at hv
    rcases hv with rfl <;> first | rfl | assumption) hst h
theorem s55_122 {S : Nat × (Nat → Int32)} {L : List (Option Value)} {st : List Value} {n : Nat} {Q : xQ} {μ : xM} {x : Int32} (h : Q (.inl (some (.int x))) μ n) : x_V S 55 122 L (.int x :: []) μ n Q := x_ireturn d55_122 rfl rfl h
theorem s55_123 {S : Nat × (Nat → Int32)} {L : List (Option Value)} {st : List Value} {n : Nat} {Q : xQ} {μ : xM} {a : Nat} (hl : L[0]? = some (some (.ref a))) (h : x_V S 55 124 L (.ref a :: st) μ n Q) : x_V S 55 123 L (st) μ n Q := x_aload_n d55_123 hl h
theorem s55_123N {S : Nat × (Nat → Int32)} {L : List (Option Value)} {st : List Value} {n : Nat} {Q : xQ} {μ : xM} (hl : L[0]? = some (some .null)) (h : x_V S 55 124 L (.null :: st) μ n Q) : x_V S 55 123 L st μ n Q := x_aload_nN d55_123 hl h
theorem s55_124 {S : Nat × (Nat → Int32)} {L : List (Option Value)} {st : List Value} {n : Nat} {Q : xQ} {μ : xM} {a : Nat} (hl : L[0]? = some (some (.ref a))) (h : x_V S 55 125 L (.ref a :: st) μ n Q) : x_V S 55 124 L (st) μ n Q := x_aload_n d55_124 hl h
theorem s55_124N {S : Nat × (Nat → Int32)} {L : List (Option Value)} {st : List Value} {n : Nat} {Q : xQ} {μ : xM} (hl : L[0]? = some (some .null)) (h : x_V S 55 125 L (.null :: st) μ n Q) : x_V S 55 124 L st μ n Q := x_aload_nN d55_124 hl h
theorem s55_125 {S : Nat × (Nat → Int32)} {L : List (Option Value)} {st : List Value} {n : Nat} {Q : xQ} {g : Nat → Nat → Int} {a : Nat} (hs : x_sh a = (4, 12)) (hp : x_pt a 3 = none) (ha : a ≠ x_out) (h : x_V S 55 128 L (.int (I (g a 3)) :: st) (x_vm g) n Q) : x_V S 55 125 L (.ref a :: st) (x_vm g) n Q := v_get (i := 3) cf4 d55_125 (by decide) w183 hs hp ha h
theorem s55_128 {S : Nat × (Nat → Int32)} {L : List (Option Value)} {st : List Value} {n : Nat} {Q : xQ} {μ : xM}  (h : x_V S 55 129 L (.int (I 1) :: st) μ n Q) : x_V S 55 128 L (st) μ n Q := x_iconst (by decide +kernel) d55_128 h
theorem s55_129 {S : Nat × (Nat → Int32)} {L : List (Option Value)} {st : List Value} {n : Nat} {Q : xQ} {μ : xM} {x y : Int} (h : x_V S 55 130 L (.int (I (x + y)) :: st) μ n Q) : x_V S 55 129 L (.int (I y) :: .int (I x) :: st) μ n Q := v_iadd d55_129 h
theorem s55_130 {S : Nat × (Nat → Int32)} {L : List (Option Value)} {st : List Value} {n : Nat} {Q : xQ} {μ : xM} {x0 : Int32} {a : Nat} (hs : x_sh a = (4, 12)) (hst : st.length ≤ 4) (h : x_V S 62 0 [some (.ref a), some (.int x0)] [] μ n (x_bk S 55 130 L st Q)) : x_V S 55 130 L (.int x0 :: .ref a :: st) μ n Q := x_callV (k' := 62) (as := [.int x0]) (na := 1) d55_130 ⟨w542, by decide +kernel, by decide, by decide, by decide, by decide, by decide⟩ cf4 w539 w541 wp14 (by decide +kernel) rfl hs (fun v hv => by
    simp only [List.mem_cons, List.not_mem_nil, or_false] at hv
    rcases hv with rfl <;> first | rfl | assumption) hst h
theorem s55_133 {S : Nat × (Nat → Int32)} {L : List (Option Value)} {st : List Value} {n : Nat} {Q : xQ} {μ : xM} {v : Value} (hc : v.category = 1) (h : x_V S 55 134 L (st) μ n Q) : x_V S 55 133 L (v :: st) μ n Q := x_pop hc d55_133 h
theorem s55_134 {S : Nat × (Nat → Int32)} {L : List (Option Value)} {st : List Value} {n : Nat} {Q : xQ} {μ : xM} {a : Nat} (hl : L[0]? = some (some (.ref a))) (h : x_V S 55 135 L (.ref a :: st) μ n Q) : x_V S 55 134 L (st) μ n Q := x_aload_n d55_134 hl h
theorem s55_134N {S : Nat × (Nat → Int32)} {L : List (Option Value)} {st : List Value} {n : Nat} {Q : xQ} {μ : xM} (hl : L[0]? = some (some .null)) (h : x_V S 55 135 L (.null :: st) μ n Q) : x_V S 55 134 L st μ n Q := x_aload_nN d55_134 hl h
theorem s55_135 {S : Nat × (Nat → Int32)} {L : List (Option Value)} {st : List Value} {n : Nat} {Q : xQ} {μ : xM} {a : Nat} (hl : L[1]? = some (some (.ref a))) (h : x_V S 55 136 L (.ref a :: st) μ n Q) : x_V S 55 135 L (st) μ n Q := x_aload_n d55_135 hl h
theorem s55_135N {S : Nat × (Nat → Int32)} {L : List (Option Value)} {st : List Value} {n : Nat} {Q : xQ} {μ : xM} (hl : L[1]? = some (some .null)) (h : x_V S 55 136 L (.null :: st) μ n Q) : x_V S 55 135 L st μ n Q := x_aload_nN d55_135 hl h
theorem s55_136 {S : Nat × (Nat → Int32)} {L : List (Option Value)} {st : List Value} {n : Nat} {Q : xQ} {μ : xM} {v0 : Value} (hc0 : v0.category = 1) {a : Nat} (hs : x_sh a = (4, 12)) (hst : st.length ≤ 4) (h : x_V S 61 0 [some (.ref a), some (v0)] [] μ n (x_bk S 55 136 L st Q)) : x_V S 55 136 L (v0 :: .ref a :: st) μ n Q := x_callV (k' := 61) (as := [v0]) (na := 1) d55_136 ⟨w574, by decide +kernel, by decide, by decide, by decide, by decide, by decide⟩ cf4 w571 w573 wp19 (by decide +kernel) rfl hs (fun v hv => by
    simp only [List.mem_cons, List.not_mem_nil, or_false] at hv
    rcases hv with rfl <;> first | rfl | assumption) hst h
theorem s55_139 {S : Nat × (Nat → Int32)} {L : List (Option Value)} {st : List Value} {n : Nat} {Q : xQ} {μ : xM}  (h : x_V S 55 140 L (.int (I 2) :: st) μ n Q) : x_V S 55 139 L (st) μ n Q := x_iconst (by decide +kernel) d55_139 h
theorem s55_140 {S : Nat × (Nat → Int32)} {L : List (Option Value)} {st : List Value} {n : Nat} {Q : xQ} {μ : xM} {x : Int32} (h : Q (.inl (some (.int x))) μ n) : x_V S 55 140 L (.int x :: []) μ n Q := x_ireturn d55_140 rfl rfl h
theorem mC_56 : mC 56 = prog_9_method_3_code := rfl
theorem d56_0 : decode (mC 56) 0 = .ok (.aload_n 0, 1) := by rw [mC_56]; decide +kernel
theorem d56_1 : decode (mC 56) 1 = .ok (.dup, 1) := by rw [mC_56]; decide +kernel
theorem d56_2 : decode (mC 56) 2 = .ok (.getfield 48, 3) := by rw [mC_56]; decide +kernel
theorem d56_5 : decode (mC 56) 5 = .ok (.iconst 1, 1) := by rw [mC_56]; decide +kernel
theorem d56_6 : decode (mC 56) 6 = .ok (.iadd, 1) := by rw [mC_56]; decide +kernel
theorem d56_7 : decode (mC 56) 7 = .ok (.putfield 48, 3) := by rw [mC_56]; decide +kernel
theorem d56_10 : decode (mC 56) 10 = .ok (.aload_n 0, 1) := by rw [mC_56]; decide +kernel
theorem d56_11 : decode (mC 56) 11 = .ok (.getfield 39, 3) := by rw [mC_56]; decide +kernel
theorem d56_14 : decode (mC 56) 14 = .ok (.ifCond .ne 4, 3) := by rw [mC_56]; decide +kernel
theorem d56_17 : decode (mC 56) 17 = .ok (.return_, 1) := by rw [mC_56]; decide +kernel
theorem d56_18 : decode (mC 56) 18 = .ok (.aload_n 0, 1) := by rw [mC_56]; decide +kernel
theorem d56_19 : decode (mC 56) 19 = .ok (.getfield 48, 3) := by rw [mC_56]; decide +kernel
theorem d56_22 : decode (mC 56) 22 = .ok (.aload_n 0, 1) := by rw [mC_56]; decide +kernel
theorem d56_23 : decode (mC 56) 23 = .ok (.getfield 51, 3) := by rw [mC_56]; decide +kernel
theorem d56_26 : decode (mC 56) 26 = .ok (.isub, 1) := by rw [mC_56]; decide +kernel
theorem d56_27 : decode (mC 56) 27 = .ok (.bipush 24, 2) := by rw [mC_56]; decide +kernel
theorem d56_29 : decode (mC 56) 29 = .ok (.if_icmp .lt 8, 3) := by rw [mC_56]; decide +kernel
theorem d56_32 : decode (mC 56) 32 = .ok (.aload_n 0, 1) := by rw [mC_56]; decide +kernel
theorem d56_33 : decode (mC 56) 33 = .ok (.invokevirtual 88, 3) := by rw [mC_56]; decide +kernel
theorem d56_36 : decode (mC 56) 36 = .ok (.return_, 1) := by rw [mC_56]; decide +kernel
theorem d56_37 : decode (mC 56) 37 = .ok (.aload_n 0, 1) := by rw [mC_56]; decide +kernel
theorem d56_38 : decode (mC 56) 38 = .ok (.getfield 48, 3) := by rw [mC_56]; decide +kernel
theorem d56_41 : decode (mC 56) 41 = .ok (.aload_n 0, 1) := by rw [mC_56]; decide +kernel
theorem d56_42 : decode (mC 56) 42 = .ok (.getfield 51, 3) := by rw [mC_56]; decide +kernel
theorem d56_45 : decode (mC 56) 45 = .ok (.isub, 1) := by rw [mC_56]; decide +kernel
theorem d56_46 : decode (mC 56) 46 = .ok (.bipush 12, 2) := by rw [mC_56]; decide +kernel
theorem d56_48 : decode (mC 56) 48 = .ok (.if_icmp .ne 14, 3) := by rw [mC_56]; decide +kernel
theorem d56_51 : decode (mC 56) 51 = .ok (.aload_n 0, 1) := by rw [mC_56]; decide +kernel
theorem d56_52 : decode (mC 56) 52 = .ok (.bipush 49, 2) := by rw [mC_56]; decide +kernel
theorem d56_54 : decode (mC 56) 54 = .ok (.aload_n 0, 1) := by rw [mC_56]; decide +kernel
theorem d56_55 : decode (mC 56) 55 = .ok (.getfield 48, 3) := by rw [mC_56]; decide +kernel
theorem d56_58 : decode (mC 56) 58 = .ok (.iconst 0, 1) := by rw [mC_56]; decide +kernel
theorem d56_59 : decode (mC 56) 59 = .ok (.invokevirtual 76, 3) := by rw [mC_56]; decide +kernel
theorem d56_62 : decode (mC 56) 62 = .ok (.aload_n 0, 1) := by rw [mC_56]; decide +kernel
theorem d56_63 : decode (mC 56) 63 = .ok (.getfield 91, 3) := by rw [mC_56]; decide +kernel
theorem d56_66 : decode (mC 56) 66 = .ok (.ifCond .le 21, 3) := by rw [mC_56]; decide +kernel
theorem d56_69 : decode (mC 56) 69 = .ok (.aload_n 0, 1) := by rw [mC_56]; decide +kernel
theorem d56_70 : decode (mC 56) 70 = .ok (.getfield 48, 3) := by rw [mC_56]; decide +kernel
theorem d56_73 : decode (mC 56) 73 = .ok (.aload_n 0, 1) := by rw [mC_56]; decide +kernel
theorem d56_74 : decode (mC 56) 74 = .ok (.getfield 94, 3) := by rw [mC_56]; decide +kernel
theorem d56_77 : decode (mC 56) 77 = .ok (.isub, 1) := by rw [mC_56]; decide +kernel
theorem d56_78 : decode (mC 56) 78 = .ok (.bipush 8, 2) := by rw [mC_56]; decide +kernel
theorem d56_80 : decode (mC 56) 80 = .ok (.if_icmp .lt 7, 3) := by rw [mC_56]; decide +kernel
theorem d56_83 : decode (mC 56) 83 = .ok (.aload_n 0, 1) := by rw [mC_56]; decide +kernel
theorem d56_84 : decode (mC 56) 84 = .ok (.invokevirtual 97, 3) := by rw [mC_56]; decide +kernel
theorem d56_87 : decode (mC 56) 87 = .ok (.aload_n 0, 1) := by rw [mC_56]; decide +kernel
theorem d56_88 : decode (mC 56) 88 = .ok (.getfield 48, 3) := by rw [mC_56]; decide +kernel
theorem d56_91 : decode (mC 56) 91 = .ok (.aload_n 0, 1) := by rw [mC_56]; decide +kernel
theorem d56_92 : decode (mC 56) 92 = .ok (.getfield 100, 3) := by rw [mC_56]; decide +kernel
theorem d56_95 : decode (mC 56) 95 = .ok (.isub, 1) := by rw [mC_56]; decide +kernel
theorem d56_96 : decode (mC 56) 96 = .ok (.bipush 10, 2) := by rw [mC_56]; decide +kernel
theorem d56_98 : decode (mC 56) 98 = .ok (.if_icmp .lt 11, 3) := by rw [mC_56]; decide +kernel
theorem d56_101 : decode (mC 56) 101 = .ok (.aload_n 0, 1) := by rw [mC_56]; decide +kernel
theorem d56_102 : decode (mC 56) 102 = .ok (.bipush 48, 2) := by rw [mC_56]; decide +kernel
theorem d56_104 : decode (mC 56) 104 = .ok (.iconst (-1), 1) := by rw [mC_56]; decide +kernel
theorem d56_105 : decode (mC 56) 105 = .ok (.iconst 0, 1) := by rw [mC_56]; decide +kernel
theorem d56_106 : decode (mC 56) 106 = .ok (.invokevirtual 76, 3) := by rw [mC_56]; decide +kernel
theorem d56_109 : decode (mC 56) 109 = .ok (.return_, 1) := by rw [mC_56]; decide +kernel
theorem s56_0 {S : Nat × (Nat → Int32)} {L : List (Option Value)} {st : List Value} {n : Nat} {Q : xQ} {μ : xM} {a : Nat} (hl : L[0]? = some (some (.ref a))) (h : x_V S 56 1 L (.ref a :: st) μ n Q) : x_V S 56 0 L (st) μ n Q := x_aload_n d56_0 hl h
theorem s56_0N {S : Nat × (Nat → Int32)} {L : List (Option Value)} {st : List Value} {n : Nat} {Q : xQ} {μ : xM} (hl : L[0]? = some (some .null)) (h : x_V S 56 1 L (.null :: st) μ n Q) : x_V S 56 0 L st μ n Q := x_aload_nN d56_0 hl h
theorem s56_1 {S : Nat × (Nat → Int32)} {L : List (Option Value)} {st : List Value} {n : Nat} {Q : xQ} {μ : xM} {v : Value} (hc : v.category = 1) (h : x_V S 56 2 L (v :: v :: st) μ n Q) : x_V S 56 1 L (v :: st) μ n Q := x_dup hc d56_1 h
theorem s56_2 {S : Nat × (Nat → Int32)} {L : List (Option Value)} {st : List Value} {n : Nat} {Q : xQ} {g : Nat → Nat → Int} {a : Nat} (hs : x_sh a = (4, 12)) (hp : x_pt a 7 = none) (ha : a ≠ x_out) (h : x_V S 56 5 L (.int (I (g a 7)) :: st) (x_vm g) n Q) : x_V S 56 2 L (.ref a :: st) (x_vm g) n Q := v_get (i := 7) cf4 d56_2 (by decide) w191 hs hp ha h
theorem s56_5 {S : Nat × (Nat → Int32)} {L : List (Option Value)} {st : List Value} {n : Nat} {Q : xQ} {μ : xM}  (h : x_V S 56 6 L (.int (I 1) :: st) μ n Q) : x_V S 56 5 L (st) μ n Q := x_iconst (by decide +kernel) d56_5 h
theorem s56_6 {S : Nat × (Nat → Int32)} {L : List (Option Value)} {st : List Value} {n : Nat} {Q : xQ} {μ : xM} {x y : Int} (h : x_V S 56 7 L (.int (I (x + y)) :: st) μ n Q) : x_V S 56 6 L (.int (I y) :: .int (I x) :: st) μ n Q := v_iadd d56_6 h
theorem s56_7 {S : Nat × (Nat → Int32)} {L : List (Option Value)} {st : List Value} {n : Nat} {Q : xQ} {g : Nat → Nat → Int} {a : Nat} {x : Int} (hs : x_sh a = (4, 12)) (hp : x_pt a 7 = none) (ha : a ≠ x_out) (h : x_V S 56 10 L (st) (x_vm (x_uf g a 7 x)) n Q) : x_V S 56 7 L (.int (I x) :: .ref a :: st) (x_vm g) n Q := v_put (i := 7) cf4 d56_7 (by decide) rfl w191 hs rfl hp ha h
theorem s56_10 {S : Nat × (Nat → Int32)} {L : List (Option Value)} {st : List Value} {n : Nat} {Q : xQ} {μ : xM} {a : Nat} (hl : L[0]? = some (some (.ref a))) (h : x_V S 56 11 L (.ref a :: st) μ n Q) : x_V S 56 10 L (st) μ n Q := x_aload_n d56_10 hl h
theorem s56_10N {S : Nat × (Nat → Int32)} {L : List (Option Value)} {st : List Value} {n : Nat} {Q : xQ} {μ : xM} (hl : L[0]? = some (some .null)) (h : x_V S 56 11 L (.null :: st) μ n Q) : x_V S 56 10 L st μ n Q := x_aload_nN d56_10 hl h
theorem s56_11 {S : Nat × (Nat → Int32)} {L : List (Option Value)} {st : List Value} {n : Nat} {Q : xQ} {g : Nat → Nat → Int} {a : Nat} (hs : x_sh a = (4, 12)) (hp : x_pt a 6 = none) (ha : a ≠ x_out) (h : x_V S 56 14 L (.int (I (g a 6)) :: st) (x_vm g) n Q) : x_V S 56 11 L (.ref a :: st) (x_vm g) n Q := v_get (i := 6) cf4 d56_11 (by decide) w189 hs hp ha h
theorem s56_14 {S : Nat × (Nat → Int32)} {L : List (Option Value)} {st : List Value} {n : Nat} {Q : xQ} {μ : xM} {x : Int} (hx : ib x) (kt : x ≠ 0 → x_V S 56 18 L (st) μ n Q) (kf : x = 0 → x_V S 56 17 L (st) μ n Q) : x_V S 56 14 L (.int (I x) :: st) μ n Q := v_if_ne d56_14 (by decide) hx kt kf
theorem s56_17 {S : Nat × (Nat → Int32)} {L : List (Option Value)} {st : List Value} {n : Nat} {Q : xQ} {μ : xM}  (h : Q (.inl none) μ n) : x_V S 56 17 L ([]) μ n Q := x_return d56_17 rfl h
theorem s56_18 {S : Nat × (Nat → Int32)} {L : List (Option Value)} {st : List Value} {n : Nat} {Q : xQ} {μ : xM} {a : Nat} (hl : L[0]? = some (some (.ref a))) (h : x_V S 56 19 L (.ref a :: st) μ n Q) : x_V S 56 18 L (st) μ n Q := x_aload_n d56_18 hl h
theorem s56_18N {S : Nat × (Nat → Int32)} {L : List (Option Value)} {st : List Value} {n : Nat} {Q : xQ} {μ : xM} (hl : L[0]? = some (some .null)) (h : x_V S 56 19 L (.null :: st) μ n Q) : x_V S 56 18 L st μ n Q := x_aload_nN d56_18 hl h
theorem s56_19 {S : Nat × (Nat → Int32)} {L : List (Option Value)} {st : List Value} {n : Nat} {Q : xQ} {g : Nat → Nat → Int} {a : Nat} (hs : x_sh a = (4, 12)) (hp : x_pt a 7 = none) (ha : a ≠ x_out) (h : x_V S 56 22 L (.int (I (g a 7)) :: st) (x_vm g) n Q) : x_V S 56 19 L (.ref a :: st) (x_vm g) n Q := v_get (i := 7) cf4 d56_19 (by decide) w191 hs hp ha h
theorem s56_22 {S : Nat × (Nat → Int32)} {L : List (Option Value)} {st : List Value} {n : Nat} {Q : xQ} {μ : xM} {a : Nat} (hl : L[0]? = some (some (.ref a))) (h : x_V S 56 23 L (.ref a :: st) μ n Q) : x_V S 56 22 L (st) μ n Q := x_aload_n d56_22 hl h
theorem s56_22N {S : Nat × (Nat → Int32)} {L : List (Option Value)} {st : List Value} {n : Nat} {Q : xQ} {μ : xM} (hl : L[0]? = some (some .null)) (h : x_V S 56 23 L (.null :: st) μ n Q) : x_V S 56 22 L st μ n Q := x_aload_nN d56_22 hl h
theorem s56_23 {S : Nat × (Nat → Int32)} {L : List (Option Value)} {st : List Value} {n : Nat} {Q : xQ} {g : Nat → Nat → Int} {a : Nat} (hs : x_sh a = (4, 12)) (hp : x_pt a 9 = none) (ha : a ≠ x_out) (h : x_V S 56 26 L (.int (I (g a 9)) :: st) (x_vm g) n Q) : x_V S 56 23 L (.ref a :: st) (x_vm g) n Q := v_get (i := 9) cf4 d56_23 (by decide) w195 hs hp ha h
theorem s56_26 {S : Nat × (Nat → Int32)} {L : List (Option Value)} {st : List Value} {n : Nat} {Q : xQ} {μ : xM} {x y : Int} (h : x_V S 56 27 L (.int (I (x - y)) :: st) μ n Q) : x_V S 56 26 L (.int (I y) :: .int (I x) :: st) μ n Q := v_isub d56_26 h
theorem s56_27 {S : Nat × (Nat → Int32)} {L : List (Option Value)} {st : List Value} {n : Nat} {Q : xQ} {μ : xM}  (h : x_V S 56 29 L (.int (I 24) :: st) μ n Q) : x_V S 56 27 L (st) μ n Q := x_bipush (by decide +kernel) d56_27 h
theorem s56_29 {S : Nat × (Nat → Int32)} {L : List (Option Value)} {st : List Value} {n : Nat} {Q : xQ} {μ : xM} {x y : Int} (hx : ib x) (hy : ib y) (kt : x < y → x_V S 56 37 L (st) μ n Q) (kf : y ≤ x → x_V S 56 32 L (st) μ n Q) : x_V S 56 29 L (.int (I y) :: .int (I x) :: st) μ n Q := v_icmp_lt d56_29 (by decide) hx hy kt kf
theorem s56_32 {S : Nat × (Nat → Int32)} {L : List (Option Value)} {st : List Value} {n : Nat} {Q : xQ} {μ : xM} {a : Nat} (hl : L[0]? = some (some (.ref a))) (h : x_V S 56 33 L (.ref a :: st) μ n Q) : x_V S 56 32 L (st) μ n Q := x_aload_n d56_32 hl h
theorem s56_32N {S : Nat × (Nat → Int32)} {L : List (Option Value)} {st : List Value} {n : Nat} {Q : xQ} {μ : xM} (hl : L[0]? = some (some .null)) (h : x_V S 56 33 L (.null :: st) μ n Q) : x_V S 56 32 L st μ n Q := x_aload_nN d56_32 hl h
theorem s56_33 {S : Nat × (Nat → Int32)} {L : List (Option Value)} {st : List Value} {n : Nat} {Q : xQ} {μ : xM}  {a : Nat} (hs : x_sh a = (4, 12)) (hst : st.length ≤ 4) (h : x_V S 64 0 [some (.ref a)] [] μ n (x_bk S 56 33 L st Q)) : x_V S 56 33 L (.ref a :: st) μ n Q := x_callV (k' := 64) (as := []) (na := 0) d56_33 ⟨w248, by decide +kernel, by decide, by decide, by decide, by decide, by decide⟩ cf4 w245 w247 wp0 (by decide +kernel) rfl hs (fun v hv => by
    cases hv) hst h
theorem s56_36 {S : Nat × (Nat → Int32)} {L : List (Option Value)} {st : List Value} {n : Nat} {Q : xQ} {μ : xM}  (h : Q (.inl none) μ n) : x_V S 56 36 L ([]) μ n Q := x_return d56_36 rfl h
theorem s56_37 {S : Nat × (Nat → Int32)} {L : List (Option Value)} {st : List Value} {n : Nat} {Q : xQ} {μ : xM} {a : Nat} (hl : L[0]? = some (some (.ref a))) (h : x_V S 56 38 L (.ref a :: st) μ n Q) : x_V S 56 37 L (st) μ n Q := x_aload_n d56_37 hl h
theorem s56_37N {S : Nat × (Nat → Int32)} {L : List (Option Value)} {st : List Value} {n : Nat} {Q : xQ} {μ : xM} (hl : L[0]? = some (some .null)) (h : x_V S 56 38 L (.null :: st) μ n Q) : x_V S 56 37 L st μ n Q := x_aload_nN d56_37 hl h
theorem s56_38 {S : Nat × (Nat → Int32)} {L : List (Option Value)} {st : List Value} {n : Nat} {Q : xQ} {g : Nat → Nat → Int} {a : Nat} (hs : x_sh a = (4, 12)) (hp : x_pt a 7 = none) (ha : a ≠ x_out) (h : x_V S 56 41 L (.int (I (g a 7)) :: st) (x_vm g) n Q) : x_V S 56 38 L (.ref a :: st) (x_vm g) n Q := v_get (i := 7) cf4 d56_38 (by decide) w191 hs hp ha h
theorem s56_41 {S : Nat × (Nat → Int32)} {L : List (Option Value)} {st : List Value} {n : Nat} {Q : xQ} {μ : xM} {a : Nat} (hl : L[0]? = some (some (.ref a))) (h : x_V S 56 42 L (.ref a :: st) μ n Q) : x_V S 56 41 L (st) μ n Q := x_aload_n d56_41 hl h
theorem s56_41N {S : Nat × (Nat → Int32)} {L : List (Option Value)} {st : List Value} {n : Nat} {Q : xQ} {μ : xM} (hl : L[0]? = some (some .null)) (h : x_V S 56 42 L (.null :: st) μ n Q) : x_V S 56 41 L st μ n Q := x_aload_nN d56_41 hl h
theorem s56_42 {S : Nat × (Nat → Int32)} {L : List (Option Value)} {st : List Value} {n : Nat} {Q : xQ} {g : Nat → Nat → Int} {a : Nat} (hs : x_sh a = (4, 12)) (hp : x_pt a 9 = none) (ha : a ≠ x_out) (h : x_V S 56 45 L (.int (I (g a 9)) :: st) (x_vm g) n Q) : x_V S 56 42 L (.ref a :: st) (x_vm g) n Q := v_get (i := 9) cf4 d56_42 (by decide) w195 hs hp ha h
theorem s56_45 {S : Nat × (Nat → Int32)} {L : List (Option Value)} {st : List Value} {n : Nat} {Q : xQ} {μ : xM} {x y : Int} (h : x_V S 56 46 L (.int (I (x - y)) :: st) μ n Q) : x_V S 56 45 L (.int (I y) :: .int (I x) :: st) μ n Q := v_isub d56_45 h
theorem s56_46 {S : Nat × (Nat → Int32)} {L : List (Option Value)} {st : List Value} {n : Nat} {Q : xQ} {μ : xM}  (h : x_V S 56 48 L (.int (I 12) :: st) μ n Q) : x_V S 56 46 L (st) μ n Q := x_bipush (by decide +kernel) d56_46 h
theorem s56_48 {S : Nat × (Nat → Int32)} {L : List (Option Value)} {st : List Value} {n : Nat} {Q : xQ} {μ : xM} {x y : Int} (hx : ib x) (hy : ib y) (kt : x ≠ y → x_V S 56 62 L (st) μ n Q) (kf : x = y → x_V S 56 51 L (st) μ n Q) : x_V S 56 48 L (.int (I y) :: .int (I x) :: st) μ n Q := v_icmp_ne d56_48 (by decide) hx hy kt kf
theorem s56_51 {S : Nat × (Nat → Int32)} {L : List (Option Value)} {st : List Value} {n : Nat} {Q : xQ} {μ : xM} {a : Nat} (hl : L[0]? = some (some (.ref a))) (h : x_V S 56 52 L (.ref a :: st) μ n Q) : x_V S 56 51 L (st) μ n Q := x_aload_n d56_51 hl h
theorem s56_51N {S : Nat × (Nat → Int32)} {L : List (Option Value)} {st : List Value} {n : Nat} {Q : xQ} {μ : xM} (hl : L[0]? = some (some .null)) (h : x_V S 56 52 L (.null :: st) μ n Q) : x_V S 56 51 L st μ n Q := x_aload_nN d56_51 hl h
theorem s56_52 {S : Nat × (Nat → Int32)} {L : List (Option Value)} {st : List Value} {n : Nat} {Q : xQ} {μ : xM}  (h : x_V S 56 54 L (.int (I 49) :: st) μ n Q) : x_V S 56 52 L (st) μ n Q := x_bipush (by decide +kernel) d56_52 h
theorem s56_54 {S : Nat × (Nat → Int32)} {L : List (Option Value)} {st : List Value} {n : Nat} {Q : xQ} {μ : xM} {a : Nat} (hl : L[0]? = some (some (.ref a))) (h : x_V S 56 55 L (.ref a :: st) μ n Q) : x_V S 56 54 L (st) μ n Q := x_aload_n d56_54 hl h
theorem s56_54N {S : Nat × (Nat → Int32)} {L : List (Option Value)} {st : List Value} {n : Nat} {Q : xQ} {μ : xM} (hl : L[0]? = some (some .null)) (h : x_V S 56 55 L (.null :: st) μ n Q) : x_V S 56 54 L st μ n Q := x_aload_nN d56_54 hl h
theorem s56_55 {S : Nat × (Nat → Int32)} {L : List (Option Value)} {st : List Value} {n : Nat} {Q : xQ} {g : Nat → Nat → Int} {a : Nat} (hs : x_sh a = (4, 12)) (hp : x_pt a 7 = none) (ha : a ≠ x_out) (h : x_V S 56 58 L (.int (I (g a 7)) :: st) (x_vm g) n Q) : x_V S 56 55 L (.ref a :: st) (x_vm g) n Q := v_get (i := 7) cf4 d56_55 (by decide) w191 hs hp ha h
theorem s56_58 {S : Nat × (Nat → Int32)} {L : List (Option Value)} {st : List Value} {n : Nat} {Q : xQ} {μ : xM}  (h : x_V S 56 59 L (.int (I 0) :: st) μ n Q) : x_V S 56 58 L (st) μ n Q := x_iconst (by decide +kernel) d56_58 h
theorem s56_59 {S : Nat × (Nat → Int32)} {L : List (Option Value)} {st : List Value} {n : Nat} {Q : xQ} {μ : xM} {x0 : Int32} {x1 : Int32} {x2 : Int32} {a : Nat} (hs : x_sh a = (4, 12)) (hst : st.length ≤ 4) (h : x_V S 65 0 [some (.ref a), some (.int x0), some (.int x1), some (.int x2)] [] μ n (x_bk S 56 59 L st Q)) : x_V S 56 59 L (.int x2 :: .int x1 :: .int x0 :: .ref a :: st) μ n Q := x_callV (k' := 65) (as := [.int x0, .int x1, .int x2]) (na := 3) d56_59 ⟨w252, by decide +kernel, by decide, by decide, by decide, by decide, by decide⟩ cf4 w249 w251 wp1 (by decide +kernel) rfl hs (fun v hv => by
    simp only [List.mem_cons, List.not_mem_nil, or_false] at hv
    rcases hv with rfl | rfl | rfl <;> first | rfl | assumption) hst h
theorem s56_62 {S : Nat × (Nat → Int32)} {L : List (Option Value)} {st : List Value} {n : Nat} {Q : xQ} {μ : xM} {a : Nat} (hl : L[0]? = some (some (.ref a))) (h : x_V S 56 63 L (.ref a :: st) μ n Q) : x_V S 56 62 L (st) μ n Q := x_aload_n d56_62 hl h
theorem s56_62N {S : Nat × (Nat → Int32)} {L : List (Option Value)} {st : List Value} {n : Nat} {Q : xQ} {μ : xM} (hl : L[0]? = some (some .null)) (h : x_V S 56 63 L (.null :: st) μ n Q) : x_V S 56 62 L st μ n Q := x_aload_nN d56_62 hl h
theorem s56_63 {S : Nat × (Nat → Int32)} {L : List (Option Value)} {st : List Value} {n : Nat} {Q : xQ} {g : Nat → Nat → Int} {a : Nat} (hs : x_sh a = (4, 12)) (hp : x_pt a 5 = none) (ha : a ≠ x_out) (h : x_V S 56 66 L (.int (I (g a 5)) :: st) (x_vm g) n Q) : x_V S 56 63 L (.ref a :: st) (x_vm g) n Q := v_get (i := 5) cf4 d56_63 (by decide) w187 hs hp ha h
theorem s56_66 {S : Nat × (Nat → Int32)} {L : List (Option Value)} {st : List Value} {n : Nat} {Q : xQ} {μ : xM} {x : Int} (hx : ib x) (kt : x ≤ 0 → x_V S 56 87 L (st) μ n Q) (kf : 0 < x → x_V S 56 69 L (st) μ n Q) : x_V S 56 66 L (.int (I x) :: st) μ n Q := v_if_le d56_66 (by decide) hx kt kf
theorem s56_69 {S : Nat × (Nat → Int32)} {L : List (Option Value)} {st : List Value} {n : Nat} {Q : xQ} {μ : xM} {a : Nat} (hl : L[0]? = some (some (.ref a))) (h : x_V S 56 70 L (.ref a :: st) μ n Q) : x_V S 56 69 L (st) μ n Q := x_aload_n d56_69 hl h
theorem s56_69N {S : Nat × (Nat → Int32)} {L : List (Option Value)} {st : List Value} {n : Nat} {Q : xQ} {μ : xM} (hl : L[0]? = some (some .null)) (h : x_V S 56 70 L (.null :: st) μ n Q) : x_V S 56 69 L st μ n Q := x_aload_nN d56_69 hl h
theorem s56_70 {S : Nat × (Nat → Int32)} {L : List (Option Value)} {st : List Value} {n : Nat} {Q : xQ} {g : Nat → Nat → Int} {a : Nat} (hs : x_sh a = (4, 12)) (hp : x_pt a 7 = none) (ha : a ≠ x_out) (h : x_V S 56 73 L (.int (I (g a 7)) :: st) (x_vm g) n Q) : x_V S 56 70 L (.ref a :: st) (x_vm g) n Q := v_get (i := 7) cf4 d56_70 (by decide) w191 hs hp ha h
theorem s56_73 {S : Nat × (Nat → Int32)} {L : List (Option Value)} {st : List Value} {n : Nat} {Q : xQ} {μ : xM} {a : Nat} (hl : L[0]? = some (some (.ref a))) (h : x_V S 56 74 L (.ref a :: st) μ n Q) : x_V S 56 73 L (st) μ n Q := x_aload_n d56_73 hl h
theorem s56_73N {S : Nat × (Nat → Int32)} {L : List (Option Value)} {st : List Value} {n : Nat} {Q : xQ} {μ : xM} (hl : L[0]? = some (some .null)) (h : x_V S 56 74 L (.null :: st) μ n Q) : x_V S 56 73 L st μ n Q := x_aload_nN d56_73 hl h
theorem s56_74 {S : Nat × (Nat → Int32)} {L : List (Option Value)} {st : List Value} {n : Nat} {Q : xQ} {g : Nat → Nat → Int} {a : Nat} (hs : x_sh a = (4, 12)) (hp : x_pt a 11 = none) (ha : a ≠ x_out) (h : x_V S 56 77 L (.int (I (g a 11)) :: st) (x_vm g) n Q) : x_V S 56 74 L (.ref a :: st) (x_vm g) n Q := v_get (i := 11) cf4 d56_74 (by decide) w197 hs hp ha h
theorem s56_77 {S : Nat × (Nat → Int32)} {L : List (Option Value)} {st : List Value} {n : Nat} {Q : xQ} {μ : xM} {x y : Int} (h : x_V S 56 78 L (.int (I (x - y)) :: st) μ n Q) : x_V S 56 77 L (.int (I y) :: .int (I x) :: st) μ n Q := v_isub d56_77 h
theorem s56_78 {S : Nat × (Nat → Int32)} {L : List (Option Value)} {st : List Value} {n : Nat} {Q : xQ} {μ : xM}  (h : x_V S 56 80 L (.int (I 8) :: st) μ n Q) : x_V S 56 78 L (st) μ n Q := x_bipush (by decide +kernel) d56_78 h
theorem s56_80 {S : Nat × (Nat → Int32)} {L : List (Option Value)} {st : List Value} {n : Nat} {Q : xQ} {μ : xM} {x y : Int} (hx : ib x) (hy : ib y) (kt : x < y → x_V S 56 87 L (st) μ n Q) (kf : y ≤ x → x_V S 56 83 L (st) μ n Q) : x_V S 56 80 L (.int (I y) :: .int (I x) :: st) μ n Q := v_icmp_lt d56_80 (by decide) hx hy kt kf
theorem s56_83 {S : Nat × (Nat → Int32)} {L : List (Option Value)} {st : List Value} {n : Nat} {Q : xQ} {μ : xM} {a : Nat} (hl : L[0]? = some (some (.ref a))) (h : x_V S 56 84 L (.ref a :: st) μ n Q) : x_V S 56 83 L (st) μ n Q := x_aload_n d56_83 hl h
theorem s56_83N {S : Nat × (Nat → Int32)} {L : List (Option Value)} {st : List Value} {n : Nat} {Q : xQ} {μ : xM} (hl : L[0]? = some (some .null)) (h : x_V S 56 84 L (.null :: st) μ n Q) : x_V S 56 83 L st μ n Q := x_aload_nN d56_83 hl h
theorem s56_84 {S : Nat × (Nat → Int32)} {L : List (Option Value)} {st : List Value} {n : Nat} {Q : xQ} {μ : xM}  {a : Nat} (hs : x_sh a = (4, 12)) (hst : st.length ≤ 4) (h : x_V S 63 0 [some (.ref a)] [] μ n (x_bk S 56 84 L st Q)) : x_V S 56 84 L (.ref a :: st) μ n Q := x_callV (k' := 63) (as := []) (na := 0) d56_84 ⟨w276, by decide +kernel, by decide, by decide, by decide, by decide, by decide⟩ cf4 w273 w275 wp3 (by decide +kernel) rfl hs (fun v hv => by
    cases hv) hst h
theorem s56_87 {S : Nat × (Nat → Int32)} {L : List (Option Value)} {st : List Value} {n : Nat} {Q : xQ} {μ : xM} {a : Nat} (hl : L[0]? = some (some (.ref a))) (h : x_V S 56 88 L (.ref a :: st) μ n Q) : x_V S 56 87 L (st) μ n Q := x_aload_n d56_87 hl h
theorem s56_87N {S : Nat × (Nat → Int32)} {L : List (Option Value)} {st : List Value} {n : Nat} {Q : xQ} {μ : xM} (hl : L[0]? = some (some .null)) (h : x_V S 56 88 L (.null :: st) μ n Q) : x_V S 56 87 L st μ n Q := x_aload_nN d56_87 hl h
theorem s56_88 {S : Nat × (Nat → Int32)} {L : List (Option Value)} {st : List Value} {n : Nat} {Q : xQ} {g : Nat → Nat → Int} {a : Nat} (hs : x_sh a = (4, 12)) (hp : x_pt a 7 = none) (ha : a ≠ x_out) (h : x_V S 56 91 L (.int (I (g a 7)) :: st) (x_vm g) n Q) : x_V S 56 88 L (.ref a :: st) (x_vm g) n Q := v_get (i := 7) cf4 d56_88 (by decide) w191 hs hp ha h
theorem s56_91 {S : Nat × (Nat → Int32)} {L : List (Option Value)} {st : List Value} {n : Nat} {Q : xQ} {μ : xM} {a : Nat} (hl : L[0]? = some (some (.ref a))) (h : x_V S 56 92 L (.ref a :: st) μ n Q) : x_V S 56 91 L (st) μ n Q := x_aload_n d56_91 hl h
theorem s56_91N {S : Nat × (Nat → Int32)} {L : List (Option Value)} {st : List Value} {n : Nat} {Q : xQ} {μ : xM} (hl : L[0]? = some (some .null)) (h : x_V S 56 92 L (.null :: st) μ n Q) : x_V S 56 91 L st μ n Q := x_aload_nN d56_91 hl h
theorem s56_92 {S : Nat × (Nat → Int32)} {L : List (Option Value)} {st : List Value} {n : Nat} {Q : xQ} {g : Nat → Nat → Int} {a : Nat} (hs : x_sh a = (4, 12)) (hp : x_pt a 10 = none) (ha : a ≠ x_out) (h : x_V S 56 95 L (.int (I (g a 10)) :: st) (x_vm g) n Q) : x_V S 56 92 L (.ref a :: st) (x_vm g) n Q := v_get (i := 10) cf4 d56_92 (by decide) w196 hs hp ha h
theorem s56_95 {S : Nat × (Nat → Int32)} {L : List (Option Value)} {st : List Value} {n : Nat} {Q : xQ} {μ : xM} {x y : Int} (h : x_V S 56 96 L (.int (I (x - y)) :: st) μ n Q) : x_V S 56 95 L (.int (I y) :: .int (I x) :: st) μ n Q := v_isub d56_95 h
theorem s56_96 {S : Nat × (Nat → Int32)} {L : List (Option Value)} {st : List Value} {n : Nat} {Q : xQ} {μ : xM}  (h : x_V S 56 98 L (.int (I 10) :: st) μ n Q) : x_V S 56 96 L (st) μ n Q := x_bipush (by decide +kernel) d56_96 h
theorem s56_98 {S : Nat × (Nat → Int32)} {L : List (Option Value)} {st : List Value} {n : Nat} {Q : xQ} {μ : xM} {x y : Int} (hx : ib x) (hy : ib y) (kt : x < y → x_V S 56 109 L (st) μ n Q) (kf : y ≤ x → x_V S 56 101 L (st) μ n Q) : x_V S 56 98 L (.int (I y) :: .int (I x) :: st) μ n Q := v_icmp_lt d56_98 (by decide) hx hy kt kf
theorem s56_101 {S : Nat × (Nat → Int32)} {L : List (Option Value)} {st : List Value} {n : Nat} {Q : xQ} {μ : xM} {a : Nat} (hl : L[0]? = some (some (.ref a))) (h : x_V S 56 102 L (.ref a :: st) μ n Q) : x_V S 56 101 L (st) μ n Q := x_aload_n d56_101 hl h
theorem s56_101N {S : Nat × (Nat → Int32)} {L : List (Option Value)} {st : List Value} {n : Nat} {Q : xQ} {μ : xM} (hl : L[0]? = some (some .null)) (h : x_V S 56 102 L (.null :: st) μ n Q) : x_V S 56 101 L st μ n Q := x_aload_nN d56_101 hl h
theorem s56_102 {S : Nat × (Nat → Int32)} {L : List (Option Value)} {st : List Value} {n : Nat} {Q : xQ} {μ : xM}  (h : x_V S 56 104 L (.int (I 48) :: st) μ n Q) : x_V S 56 102 L (st) μ n Q := x_bipush (by decide +kernel) d56_102 h
theorem s56_104 {S : Nat × (Nat → Int32)} {L : List (Option Value)} {st : List Value} {n : Nat} {Q : xQ} {μ : xM}  (h : x_V S 56 105 L (.int (I (-1)) :: st) μ n Q) : x_V S 56 104 L (st) μ n Q := x_iconst (by decide +kernel) d56_104 h
theorem s56_105 {S : Nat × (Nat → Int32)} {L : List (Option Value)} {st : List Value} {n : Nat} {Q : xQ} {μ : xM}  (h : x_V S 56 106 L (.int (I 0) :: st) μ n Q) : x_V S 56 105 L (st) μ n Q := x_iconst (by decide +kernel) d56_105 h
theorem s56_106 {S : Nat × (Nat → Int32)} {L : List (Option Value)} {st : List Value} {n : Nat} {Q : xQ} {μ : xM} {x0 : Int32} {x1 : Int32} {x2 : Int32} {a : Nat} (hs : x_sh a = (4, 12)) (hst : st.length ≤ 4) (h : x_V S 65 0 [some (.ref a), some (.int x0), some (.int x1), some (.int x2)] [] μ n (x_bk S 56 106 L st Q)) : x_V S 56 106 L (.int x2 :: .int x1 :: .int x0 :: .ref a :: st) μ n Q := x_callV (k' := 65) (as := [.int x0, .int x1, .int x2]) (na := 3) d56_106 ⟨w252, by decide +kernel, by decide, by decide, by decide, by decide, by decide⟩ cf4 w249 w251 wp1 (by decide +kernel) rfl hs (fun v hv => by
    simp only [List.mem_cons, List.not_mem_nil, or_false] at hv
    rcases hv with rfl | rfl | rfl <;> first | rfl | assumption) hst h
theorem s56_109 {S : Nat × (Nat → Int32)} {L : List (Option Value)} {st : List Value} {n : Nat} {Q : xQ} {μ : xM}  (h : Q (.inl none) μ n) : x_V S 56 109 L ([]) μ n Q := x_return d56_109 rfl h
theorem mC_57 : mC 57 = prog_9_method_4_code := rfl
theorem d57_0 : decode (mC 57) 0 = .ok (.aload_n 0, 1) := by rw [mC_57]; decide +kernel
theorem d57_1 : decode (mC 57) 1 = .ok (.iconst 0, 1) := by rw [mC_57]; decide +kernel
theorem d57_2 : decode (mC 57) 2 = .ok (.putfield 39, 3) := by rw [mC_57]; decide +kernel
theorem d57_5 : decode (mC 57) 5 = .ok (.aload_n 0, 1) := by rw [mC_57]; decide +kernel
theorem d57_6 : decode (mC 57) 6 = .ok (.iconst 0, 1) := by rw [mC_57]; decide +kernel
theorem d57_7 : decode (mC 57) 7 = .ok (.putfield 91, 3) := by rw [mC_57]; decide +kernel
theorem d57_10 : decode (mC 57) 10 = .ok (.return_, 1) := by rw [mC_57]; decide +kernel
theorem s57_0 {S : Nat × (Nat → Int32)} {L : List (Option Value)} {st : List Value} {n : Nat} {Q : xQ} {μ : xM} {a : Nat} (hl : L[0]? = some (some (.ref a))) (h : x_V S 57 1 L (.ref a :: st) μ n Q) : x_V S 57 0 L (st) μ n Q := x_aload_n d57_0 hl h
theorem s57_0N {S : Nat × (Nat → Int32)} {L : List (Option Value)} {st : List Value} {n : Nat} {Q : xQ} {μ : xM} (hl : L[0]? = some (some .null)) (h : x_V S 57 1 L (.null :: st) μ n Q) : x_V S 57 0 L st μ n Q := x_aload_nN d57_0 hl h
theorem s57_1 {S : Nat × (Nat → Int32)} {L : List (Option Value)} {st : List Value} {n : Nat} {Q : xQ} {μ : xM}  (h : x_V S 57 2 L (.int (I 0) :: st) μ n Q) : x_V S 57 1 L (st) μ n Q := x_iconst (by decide +kernel) d57_1 h
theorem s57_2 {S : Nat × (Nat → Int32)} {L : List (Option Value)} {st : List Value} {n : Nat} {Q : xQ} {g : Nat → Nat → Int} {a : Nat} {x : Int} (hs : x_sh a = (4, 12)) (hx : x = 0 ∨ x = 1) (hp : x_pt a 6 = none) (ha : a ≠ x_out) (h : x_V S 57 5 L (st) (x_vm (x_uf g a 6 x)) n Q) : x_V S 57 2 L (.int (I x) :: .ref a :: st) (x_vm g) n Q := v_putz (i := 6) cf4 d57_2 (by decide) rfl w189 hs rfl hx hp ha h
theorem s57_5 {S : Nat × (Nat → Int32)} {L : List (Option Value)} {st : List Value} {n : Nat} {Q : xQ} {μ : xM} {a : Nat} (hl : L[0]? = some (some (.ref a))) (h : x_V S 57 6 L (.ref a :: st) μ n Q) : x_V S 57 5 L (st) μ n Q := x_aload_n d57_5 hl h
theorem s57_5N {S : Nat × (Nat → Int32)} {L : List (Option Value)} {st : List Value} {n : Nat} {Q : xQ} {μ : xM} (hl : L[0]? = some (some .null)) (h : x_V S 57 6 L (.null :: st) μ n Q) : x_V S 57 5 L st μ n Q := x_aload_nN d57_5 hl h
theorem s57_6 {S : Nat × (Nat → Int32)} {L : List (Option Value)} {st : List Value} {n : Nat} {Q : xQ} {μ : xM}  (h : x_V S 57 7 L (.int (I 0) :: st) μ n Q) : x_V S 57 6 L (st) μ n Q := x_iconst (by decide +kernel) d57_6 h
theorem s57_7 {S : Nat × (Nat → Int32)} {L : List (Option Value)} {st : List Value} {n : Nat} {Q : xQ} {g : Nat → Nat → Int} {a : Nat} {x : Int} (hs : x_sh a = (4, 12)) (hp : x_pt a 5 = none) (ha : a ≠ x_out) (h : x_V S 57 10 L (st) (x_vm (x_uf g a 5 x)) n Q) : x_V S 57 7 L (.int (I x) :: .ref a :: st) (x_vm g) n Q := v_put (i := 5) cf4 d57_7 (by decide) rfl w187 hs rfl hp ha h
theorem s57_10 {S : Nat × (Nat → Int32)} {L : List (Option Value)} {st : List Value} {n : Nat} {Q : xQ} {μ : xM}  (h : Q (.inl none) μ n) : x_V S 57 10 L ([]) μ n Q := x_return d57_10 rfl h
theorem mC_58 : mC 58 = prog_9_method_5_code := rfl
theorem d58_0 : decode (mC 58) 0 = .ok (.aload_n 2, 1) := by rw [mC_58]; decide +kernel
theorem d58_1 : decode (mC 58) 1 = .ok (.ifnonnull 8, 3) := by rw [mC_58]; decide +kernel
theorem d58_4 : decode (mC 58) 4 = .ok (.bipush 56, 2) := by rw [mC_58]; decide +kernel
theorem d58_6 : decode (mC 58) 6 = .ok (.goto 10, 3) := by rw [mC_58]; decide +kernel
theorem d58_9 : decode (mC 58) 9 = .ok (.bipush 48, 2) := by rw [mC_58]; decide +kernel
theorem d58_11 : decode (mC 58) 11 = .ok (.aload_n 2, 1) := by rw [mC_58]; decide +kernel
theorem d58_12 : decode (mC 58) 12 = .ok (.invokevirtual 103, 3) := by rw [mC_58]; decide +kernel
theorem d58_15 : decode (mC 58) 15 = .ok (.iadd, 1) := by rw [mC_58]; decide +kernel
theorem d58_16 : decode (mC 58) 16 = .ok (.istore_n 3, 1) := by rw [mC_58]; decide +kernel
theorem d58_17 : decode (mC 58) 17 = .ok (.aload_n 2, 1) := by rw [mC_58]; decide +kernel
theorem d58_18 : decode (mC 58) 18 = .ok (.ifnonnull 7, 3) := by rw [mC_58]; decide +kernel
theorem d58_21 : decode (mC 58) 21 = .ok (.iconst 0, 1) := by rw [mC_58]; decide +kernel
theorem d58_22 : decode (mC 58) 22 = .ok (.goto 7, 3) := by rw [mC_58]; decide +kernel
theorem d58_25 : decode (mC 58) 25 = .ok (.aload_n 2, 1) := by rw [mC_58]; decide +kernel
theorem d58_26 : decode (mC 58) 26 = .ok (.getfield 109, 3) := by rw [mC_58]; decide +kernel
theorem d58_29 : decode (mC 58) 29 = .ok (.istore 4, 2) := by rw [mC_58]; decide +kernel
theorem d58_31 : decode (mC 58) 31 = .ok (.aload_n 2, 1) := by rw [mC_58]; decide +kernel
theorem d58_32 : decode (mC 58) 32 = .ok (.ifnonnull 7, 3) := by rw [mC_58]; decide +kernel
theorem d58_35 : decode (mC 58) 35 = .ok (.iconst 0, 1) := by rw [mC_58]; decide +kernel
theorem d58_36 : decode (mC 58) 36 = .ok (.goto 7, 3) := by rw [mC_58]; decide +kernel
theorem d58_39 : decode (mC 58) 39 = .ok (.aload_n 2, 1) := by rw [mC_58]; decide +kernel
theorem d58_40 : decode (mC 58) 40 = .ok (.invokevirtual 112, 3) := by rw [mC_58]; decide +kernel
theorem d58_43 : decode (mC 58) 43 = .ok (.istore 5, 2) := by rw [mC_58]; decide +kernel
theorem d58_45 : decode (mC 58) 45 = .ok (.aload_n 0, 1) := by rw [mC_58]; decide +kernel
theorem d58_46 : decode (mC 58) 46 = .ok (.getfield 28, 3) := by rw [mC_58]; decide +kernel
theorem d58_49 : decode (mC 58) 49 = .ok (.aload_n 0, 1) := by rw [mC_58]; decide +kernel
theorem d58_50 : decode (mC 58) 50 = .ok (.getfield 36, 3) := by rw [mC_58]; decide +kernel
theorem d58_53 : decode (mC 58) 53 = .ok (.iload_n 1, 1) := by rw [mC_58]; decide +kernel
theorem d58_54 : decode (mC 58) 54 = .ok (.iload_n 3, 1) := by rw [mC_58]; decide +kernel
theorem d58_55 : decode (mC 58) 55 = .ok (.iload 4, 2) := by rw [mC_58]; decide +kernel
theorem d58_57 : decode (mC 58) 57 = .ok (.iload 5, 2) := by rw [mC_58]; decide +kernel
theorem d58_59 : decode (mC 58) 59 = .ok (.invokevirtual 115, 3) := by rw [mC_58]; decide +kernel
theorem d58_62 : decode (mC 58) 62 = .ok (.aload_n 0, 1) := by rw [mC_58]; decide +kernel
theorem d58_63 : decode (mC 58) 63 = .ok (.getfield 39, 3) := by rw [mC_58]; decide +kernel
theorem d58_66 : decode (mC 58) 66 = .ok (.ifCond .eq 23, 3) := by rw [mC_58]; decide +kernel
theorem d58_69 : decode (mC 58) 69 = .ok (.aload_n 0, 1) := by rw [mC_58]; decide +kernel
theorem d58_70 : decode (mC 58) 70 = .ok (.bipush 56, 2) := by rw [mC_58]; decide +kernel
theorem d58_72 : decode (mC 58) 72 = .ok (.aload_n 0, 1) := by rw [mC_58]; decide +kernel
theorem d58_73 : decode (mC 58) 73 = .ok (.getfield 36, 3) := by rw [mC_58]; decide +kernel
theorem d58_76 : decode (mC 58) 76 = .ok (.iconst 0, 1) := by rw [mC_58]; decide +kernel
theorem d58_77 : decode (mC 58) 77 = .ok (.invokevirtual 119, 3) := by rw [mC_58]; decide +kernel
theorem d58_80 : decode (mC 58) 80 = .ok (.iload_n 1, 1) := by rw [mC_58]; decide +kernel
theorem d58_81 : decode (mC 58) 81 = .ok (.iload_n 3, 1) := by rw [mC_58]; decide +kernel
theorem d58_82 : decode (mC 58) 82 = .ok (.iload 4, 2) := by rw [mC_58]; decide +kernel
theorem d58_84 : decode (mC 58) 84 = .ok (.iload 5, 2) := by rw [mC_58]; decide +kernel
theorem d58_86 : decode (mC 58) 86 = .ok (.invokevirtual 123, 3) := by rw [mC_58]; decide +kernel
theorem d58_89 : decode (mC 58) 89 = .ok (.aload_n 0, 1) := by rw [mC_58]; decide +kernel
theorem d58_90 : decode (mC 58) 90 = .ok (.dup, 1) := by rw [mC_58]; decide +kernel
theorem d58_91 : decode (mC 58) 91 = .ok (.getfield 36, 3) := by rw [mC_58]; decide +kernel
theorem d58_94 : decode (mC 58) 94 = .ok (.iconst 1, 1) := by rw [mC_58]; decide +kernel
theorem d58_95 : decode (mC 58) 95 = .ok (.iadd, 1) := by rw [mC_58]; decide +kernel
theorem d58_96 : decode (mC 58) 96 = .ok (.putfield 36, 3) := by rw [mC_58]; decide +kernel
theorem d58_99 : decode (mC 58) 99 = .ok (.return_, 1) := by rw [mC_58]; decide +kernel
theorem s58_0 {S : Nat × (Nat → Int32)} {L : List (Option Value)} {st : List Value} {n : Nat} {Q : xQ} {μ : xM} {a : Nat} (hl : L[2]? = some (some (.ref a))) (h : x_V S 58 1 L (.ref a :: st) μ n Q) : x_V S 58 0 L (st) μ n Q := x_aload_n d58_0 hl h
theorem s58_0N {S : Nat × (Nat → Int32)} {L : List (Option Value)} {st : List Value} {n : Nat} {Q : xQ} {μ : xM} (hl : L[2]? = some (some .null)) (h : x_V S 58 1 L (.null :: st) μ n Q) : x_V S 58 0 L st μ n Q := x_aload_nN d58_0 hl h
theorem s58_1 {S : Nat × (Nat → Int32)} {L : List (Option Value)} {st : List Value} {n : Nat} {Q : xQ} {μ : xM} {a : Nat} (h : x_V S 58 9 L (st) μ n Q) : x_V S 58 1 L (.ref a :: st) μ n Q := x_ifnonnull_y (tgt := 9) (by decide) d58_1 h
theorem s58_1N {S : Nat × (Nat → Int32)} {L : List (Option Value)} {st : List Value} {n : Nat} {Q : xQ} {μ : xM} (h : x_V S 58 4 L (st) μ n Q) : x_V S 58 1 L (.null :: st) μ n Q := x_ifnonnull_n d58_1 h
theorem s58_4 {S : Nat × (Nat → Int32)} {L : List (Option Value)} {st : List Value} {n : Nat} {Q : xQ} {μ : xM}  (h : x_V S 58 6 L (.int (I 56) :: st) μ n Q) : x_V S 58 4 L (st) μ n Q := x_bipush (by decide +kernel) d58_4 h
theorem s58_6 {S : Nat × (Nat → Int32)} {L : List (Option Value)} {st : List Value} {n : Nat} {Q : xQ} {μ : xM}  (h : x_V S 58 16 L (st) μ n Q) : x_V S 58 6 L (st) μ n Q := x_goto (tgt := 16) (by decide) d58_6 h
theorem s58_9 {S : Nat × (Nat → Int32)} {L : List (Option Value)} {st : List Value} {n : Nat} {Q : xQ} {μ : xM}  (h : x_V S 58 11 L (.int (I 48) :: st) μ n Q) : x_V S 58 9 L (st) μ n Q := x_bipush (by decide +kernel) d58_9 h
theorem s58_11 {S : Nat × (Nat → Int32)} {L : List (Option Value)} {st : List Value} {n : Nat} {Q : xQ} {μ : xM} {a : Nat} (hl : L[2]? = some (some (.ref a))) (h : x_V S 58 12 L (.ref a :: st) μ n Q) : x_V S 58 11 L (st) μ n Q := x_aload_n d58_11 hl h
theorem s58_11N {S : Nat × (Nat → Int32)} {L : List (Option Value)} {st : List Value} {n : Nat} {Q : xQ} {μ : xM} (hl : L[2]? = some (some .null)) (h : x_V S 58 12 L (.null :: st) μ n Q) : x_V S 58 11 L st μ n Q := x_aload_nN d58_11 hl h
theorem s58_12 {S : Nat × (Nat → Int32)} {L : List (Option Value)} {st : List Value} {n : Nat} {Q : xQ} {μ : xM}  {a : Nat} (hs : x_sh a = (7, 5)) (hst : st.length ≤ 4) (h : x_V S 20 0 [some (.ref a)] [] μ n (x_bk S 58 12 L st Q)) : x_V S 58 12 L (.ref a :: st) μ n Q := x_callV (k' := 20) (as := []) (na := 0) d58_12 ⟨w614, by decide +kernel, by decide, by decide, by decide, by decide, by decide⟩ cf7 w611 w612 w613 (by decide +kernel) rfl hs (fun v hv => by
    cases hv) hst h
theorem s58_15 {S : Nat × (Nat → Int32)} {L : List (Option Value)} {st : List Value} {n : Nat} {Q : xQ} {μ : xM} {x y : Int} (h : x_V S 58 16 L (.int (I (x + y)) :: st) μ n Q) : x_V S 58 15 L (.int (I y) :: .int (I x) :: st) μ n Q := v_iadd d58_15 h
theorem s58_16 {S : Nat × (Nat → Int32)} {L : List (Option Value)} {st : List Value} {n : Nat} {Q : xQ} {μ : xM} {x : Int32} (h : x_V S 58 17 (L.set 3 (some (.int x))) (st) μ n Q) : x_V S 58 16 L (.int x :: st) μ n Q := x_istore_n d58_16 (by decide) h
theorem s58_17 {S : Nat × (Nat → Int32)} {L : List (Option Value)} {st : List Value} {n : Nat} {Q : xQ} {μ : xM} {a : Nat} (hl : L[2]? = some (some (.ref a))) (h : x_V S 58 18 L (.ref a :: st) μ n Q) : x_V S 58 17 L (st) μ n Q := x_aload_n d58_17 hl h
theorem s58_17N {S : Nat × (Nat → Int32)} {L : List (Option Value)} {st : List Value} {n : Nat} {Q : xQ} {μ : xM} (hl : L[2]? = some (some .null)) (h : x_V S 58 18 L (.null :: st) μ n Q) : x_V S 58 17 L st μ n Q := x_aload_nN d58_17 hl h
theorem s58_18 {S : Nat × (Nat → Int32)} {L : List (Option Value)} {st : List Value} {n : Nat} {Q : xQ} {μ : xM} {a : Nat} (h : x_V S 58 25 L (st) μ n Q) : x_V S 58 18 L (.ref a :: st) μ n Q := x_ifnonnull_y (tgt := 25) (by decide) d58_18 h
theorem s58_18N {S : Nat × (Nat → Int32)} {L : List (Option Value)} {st : List Value} {n : Nat} {Q : xQ} {μ : xM} (h : x_V S 58 21 L (st) μ n Q) : x_V S 58 18 L (.null :: st) μ n Q := x_ifnonnull_n d58_18 h
theorem s58_21 {S : Nat × (Nat → Int32)} {L : List (Option Value)} {st : List Value} {n : Nat} {Q : xQ} {μ : xM}  (h : x_V S 58 22 L (.int (I 0) :: st) μ n Q) : x_V S 58 21 L (st) μ n Q := x_iconst (by decide +kernel) d58_21 h
theorem s58_22 {S : Nat × (Nat → Int32)} {L : List (Option Value)} {st : List Value} {n : Nat} {Q : xQ} {μ : xM}  (h : x_V S 58 29 L (st) μ n Q) : x_V S 58 22 L (st) μ n Q := x_goto (tgt := 29) (by decide) d58_22 h
theorem s58_25 {S : Nat × (Nat → Int32)} {L : List (Option Value)} {st : List Value} {n : Nat} {Q : xQ} {μ : xM} {a : Nat} (hl : L[2]? = some (some (.ref a))) (h : x_V S 58 26 L (.ref a :: st) μ n Q) : x_V S 58 25 L (st) μ n Q := x_aload_n d58_25 hl h
theorem s58_25N {S : Nat × (Nat → Int32)} {L : List (Option Value)} {st : List Value} {n : Nat} {Q : xQ} {μ : xM} (hl : L[2]? = some (some .null)) (h : x_V S 58 26 L (.null :: st) μ n Q) : x_V S 58 25 L st μ n Q := x_aload_nN d58_25 hl h
theorem s58_26 {S : Nat × (Nat → Int32)} {L : List (Option Value)} {st : List Value} {n : Nat} {Q : xQ} {g : Nat → Nat → Int} {a : Nat} (hs : x_sh a = (7, 5)) (hp : x_pt a 3 = none) (ha : a ≠ x_out) (h : x_V S 58 29 L (.int (I (g a 3)) :: st) (x_vm g) n Q) : x_V S 58 26 L (.ref a :: st) (x_vm g) n Q := v_get (i := 3) cf7 d58_26 (by decide) w134 hs hp ha h
theorem s58_29 {S : Nat × (Nat → Int32)} {L : List (Option Value)} {st : List Value} {n : Nat} {Q : xQ} {μ : xM} {x : Int32} (h : x_V S 58 31 (L.set 4 (some (.int x))) (st) μ n Q) : x_V S 58 29 L (.int x :: st) μ n Q := x_istore d58_29 (by decide) h
theorem s58_31 {S : Nat × (Nat → Int32)} {L : List (Option Value)} {st : List Value} {n : Nat} {Q : xQ} {μ : xM} {a : Nat} (hl : L[2]? = some (some (.ref a))) (h : x_V S 58 32 L (.ref a :: st) μ n Q) : x_V S 58 31 L (st) μ n Q := x_aload_n d58_31 hl h
theorem s58_31N {S : Nat × (Nat → Int32)} {L : List (Option Value)} {st : List Value} {n : Nat} {Q : xQ} {μ : xM} (hl : L[2]? = some (some .null)) (h : x_V S 58 32 L (.null :: st) μ n Q) : x_V S 58 31 L st μ n Q := x_aload_nN d58_31 hl h
theorem s58_32 {S : Nat × (Nat → Int32)} {L : List (Option Value)} {st : List Value} {n : Nat} {Q : xQ} {μ : xM} {a : Nat} (h : x_V S 58 39 L (st) μ n Q) : x_V S 58 32 L (.ref a :: st) μ n Q := x_ifnonnull_y (tgt := 39) (by decide) d58_32 h
theorem s58_32N {S : Nat × (Nat → Int32)} {L : List (Option Value)} {st : List Value} {n : Nat} {Q : xQ} {μ : xM} (h : x_V S 58 35 L (st) μ n Q) : x_V S 58 32 L (.null :: st) μ n Q := x_ifnonnull_n d58_32 h
theorem s58_35 {S : Nat × (Nat → Int32)} {L : List (Option Value)} {st : List Value} {n : Nat} {Q : xQ} {μ : xM}  (h : x_V S 58 36 L (.int (I 0) :: st) μ n Q) : x_V S 58 35 L (st) μ n Q := x_iconst (by decide +kernel) d58_35 h
theorem s58_36 {S : Nat × (Nat → Int32)} {L : List (Option Value)} {st : List Value} {n : Nat} {Q : xQ} {μ : xM}  (h : x_V S 58 43 L (st) μ n Q) : x_V S 58 36 L (st) μ n Q := x_goto (tgt := 43) (by decide) d58_36 h
theorem s58_39 {S : Nat × (Nat → Int32)} {L : List (Option Value)} {st : List Value} {n : Nat} {Q : xQ} {μ : xM} {a : Nat} (hl : L[2]? = some (some (.ref a))) (h : x_V S 58 40 L (.ref a :: st) μ n Q) : x_V S 58 39 L (st) μ n Q := x_aload_n d58_39 hl h
theorem s58_39N {S : Nat × (Nat → Int32)} {L : List (Option Value)} {st : List Value} {n : Nat} {Q : xQ} {μ : xM} (hl : L[2]? = some (some .null)) (h : x_V S 58 40 L (.null :: st) μ n Q) : x_V S 58 39 L st μ n Q := x_aload_nN d58_39 hl h
theorem s58_40 {S : Nat × (Nat → Int32)} {L : List (Option Value)} {st : List Value} {n : Nat} {Q : xQ} {μ : xM}  {a : Nat} (hs : x_sh a = (7, 5)) (hst : st.length ≤ 4) (h : x_V S 19 0 [some (.ref a)] [] μ n (x_bk S 58 40 L st Q)) : x_V S 58 40 L (.ref a :: st) μ n Q := x_callV (k' := 19) (as := []) (na := 0) d58_40 ⟨w618, by decide +kernel, by decide, by decide, by decide, by decide, by decide⟩ cf7 w615 w616 w617 (by decide +kernel) rfl hs (fun v hv => by
    cases hv) hst h
theorem s58_43 {S : Nat × (Nat → Int32)} {L : List (Option Value)} {st : List Value} {n : Nat} {Q : xQ} {μ : xM} {x : Int32} (h : x_V S 58 45 (L.set 5 (some (.int x))) (st) μ n Q) : x_V S 58 43 L (.int x :: st) μ n Q := x_istore d58_43 (by decide) h
theorem s58_45 {S : Nat × (Nat → Int32)} {L : List (Option Value)} {st : List Value} {n : Nat} {Q : xQ} {μ : xM} {a : Nat} (hl : L[0]? = some (some (.ref a))) (h : x_V S 58 46 L (.ref a :: st) μ n Q) : x_V S 58 45 L (st) μ n Q := x_aload_n d58_45 hl h
theorem s58_45N {S : Nat × (Nat → Int32)} {L : List (Option Value)} {st : List Value} {n : Nat} {Q : xQ} {μ : xM} (hl : L[0]? = some (some .null)) (h : x_V S 58 46 L (.null :: st) μ n Q) : x_V S 58 45 L st μ n Q := x_aload_nN d58_45 hl h
theorem s58_46 {S : Nat × (Nat → Int32)} {L : List (Option Value)} {st : List Value} {n : Nat} {Q : xQ} {g : Nat → Nat → Int} {a : Nat} {v : Value} (hs : x_sh a = (4, 12)) (hp : x_pt a 2 = some v) (h : x_V S 58 49 L (v :: st) (x_vm g) n Q) : x_V S 58 46 L (.ref a :: st) (x_vm g) n Q := v_getp (i := 2) cf4 d58_46 (by decide) w182 hs hp h
theorem s58_49 {S : Nat × (Nat → Int32)} {L : List (Option Value)} {st : List Value} {n : Nat} {Q : xQ} {μ : xM} {a : Nat} (hl : L[0]? = some (some (.ref a))) (h : x_V S 58 50 L (.ref a :: st) μ n Q) : x_V S 58 49 L (st) μ n Q := x_aload_n d58_49 hl h
theorem s58_49N {S : Nat × (Nat → Int32)} {L : List (Option Value)} {st : List Value} {n : Nat} {Q : xQ} {μ : xM} (hl : L[0]? = some (some .null)) (h : x_V S 58 50 L (.null :: st) μ n Q) : x_V S 58 49 L st μ n Q := x_aload_nN d58_49 hl h
theorem s58_50 {S : Nat × (Nat → Int32)} {L : List (Option Value)} {st : List Value} {n : Nat} {Q : xQ} {g : Nat → Nat → Int} {a : Nat} (hs : x_sh a = (4, 12)) (hp : x_pt a 4 = none) (ha : a ≠ x_out) (h : x_V S 58 53 L (.int (I (g a 4)) :: st) (x_vm g) n Q) : x_V S 58 50 L (.ref a :: st) (x_vm g) n Q := v_get (i := 4) cf4 d58_50 (by decide) w185 hs hp ha h
theorem s58_53 {S : Nat × (Nat → Int32)} {L : List (Option Value)} {st : List Value} {n : Nat} {Q : xQ} {μ : xM} {x : Int32} (hl : L[1]? = some (some (.int x))) (h : x_V S 58 54 L (.int x :: st) μ n Q) : x_V S 58 53 L (st) μ n Q := x_iload_n d58_53 hl h
theorem s58_54 {S : Nat × (Nat → Int32)} {L : List (Option Value)} {st : List Value} {n : Nat} {Q : xQ} {μ : xM} {x : Int32} (hl : L[3]? = some (some (.int x))) (h : x_V S 58 55 L (.int x :: st) μ n Q) : x_V S 58 54 L (st) μ n Q := x_iload_n d58_54 hl h
theorem s58_55 {S : Nat × (Nat → Int32)} {L : List (Option Value)} {st : List Value} {n : Nat} {Q : xQ} {μ : xM} {x : Int32} (hl : L[4]? = some (some (.int x))) (h : x_V S 58 57 L (.int x :: st) μ n Q) : x_V S 58 55 L (st) μ n Q := x_iload d58_55 hl h
theorem s58_57 {S : Nat × (Nat → Int32)} {L : List (Option Value)} {st : List Value} {n : Nat} {Q : xQ} {μ : xM} {x : Int32} (hl : L[5]? = some (some (.int x))) (h : x_V S 58 59 L (.int x :: st) μ n Q) : x_V S 58 57 L (st) μ n Q := x_iload d58_57 hl h
theorem s58_59 {S : Nat × (Nat → Int32)} {L : List (Option Value)} {st : List Value} {n : Nat} {Q : xQ} {μ : xM} {x0 : Int32} {x1 : Int32} {x2 : Int32} {x3 : Int32} {x4 : Int32} {a : Nat} (hs : x_sh a = (8, 2)) (hst : st.length ≤ 4) (h : x_V S 43 0 [some (.ref a), some (.int x0), some (.int x1), some (.int x2), some (.int x3), some (.int x4), none] [] μ n (x_bk S 58 59 L st Q)) : x_V S 58 59 L (.int x4 :: .int x3 :: .int x2 :: .int x1 :: .int x0 :: .ref a :: st) μ n Q := x_callV (k' := 43) (as := [.int x0, .int x1, .int x2, .int x3, .int x4]) (na := 5) d58_59 ⟨w622, by decide +kernel, by decide, by decide, by decide, by decide, by decide⟩ cf8 w619 w620 w621 (by decide +kernel) rfl hs (fun v hv => by
    simp only [List.mem_cons, List.not_mem_nil, or_false] at hv
    rcases hv with rfl | rfl | rfl | rfl | rfl <;> first | rfl | assumption) hst h
theorem s58_62 {S : Nat × (Nat → Int32)} {L : List (Option Value)} {st : List Value} {n : Nat} {Q : xQ} {μ : xM} {a : Nat} (hl : L[0]? = some (some (.ref a))) (h : x_V S 58 63 L (.ref a :: st) μ n Q) : x_V S 58 62 L (st) μ n Q := x_aload_n d58_62 hl h
theorem s58_62N {S : Nat × (Nat → Int32)} {L : List (Option Value)} {st : List Value} {n : Nat} {Q : xQ} {μ : xM} (hl : L[0]? = some (some .null)) (h : x_V S 58 63 L (.null :: st) μ n Q) : x_V S 58 62 L st μ n Q := x_aload_nN d58_62 hl h
theorem s58_63 {S : Nat × (Nat → Int32)} {L : List (Option Value)} {st : List Value} {n : Nat} {Q : xQ} {g : Nat → Nat → Int} {a : Nat} (hs : x_sh a = (4, 12)) (hp : x_pt a 6 = none) (ha : a ≠ x_out) (h : x_V S 58 66 L (.int (I (g a 6)) :: st) (x_vm g) n Q) : x_V S 58 63 L (.ref a :: st) (x_vm g) n Q := v_get (i := 6) cf4 d58_63 (by decide) w189 hs hp ha h
theorem s58_66 {S : Nat × (Nat → Int32)} {L : List (Option Value)} {st : List Value} {n : Nat} {Q : xQ} {μ : xM} {x : Int} (hx : ib x) (kt : x = 0 → x_V S 58 89 L (st) μ n Q) (kf : x ≠ 0 → x_V S 58 69 L (st) μ n Q) : x_V S 58 66 L (.int (I x) :: st) μ n Q := v_if_eq d58_66 (by decide) hx kt kf
theorem s58_69 {S : Nat × (Nat → Int32)} {L : List (Option Value)} {st : List Value} {n : Nat} {Q : xQ} {μ : xM} {a : Nat} (hl : L[0]? = some (some (.ref a))) (h : x_V S 58 70 L (.ref a :: st) μ n Q) : x_V S 58 69 L (st) μ n Q := x_aload_n d58_69 hl h
theorem s58_69N {S : Nat × (Nat → Int32)} {L : List (Option Value)} {st : List Value} {n : Nat} {Q : xQ} {μ : xM} (hl : L[0]? = some (some .null)) (h : x_V S 58 70 L (.null :: st) μ n Q) : x_V S 58 69 L st μ n Q := x_aload_nN d58_69 hl h
theorem s58_70 {S : Nat × (Nat → Int32)} {L : List (Option Value)} {st : List Value} {n : Nat} {Q : xQ} {μ : xM}  (h : x_V S 58 72 L (.int (I 56) :: st) μ n Q) : x_V S 58 70 L (st) μ n Q := x_bipush (by decide +kernel) d58_70 h
theorem s58_72 {S : Nat × (Nat → Int32)} {L : List (Option Value)} {st : List Value} {n : Nat} {Q : xQ} {μ : xM} {a : Nat} (hl : L[0]? = some (some (.ref a))) (h : x_V S 58 73 L (.ref a :: st) μ n Q) : x_V S 58 72 L (st) μ n Q := x_aload_n d58_72 hl h
theorem s58_72N {S : Nat × (Nat → Int32)} {L : List (Option Value)} {st : List Value} {n : Nat} {Q : xQ} {μ : xM} (hl : L[0]? = some (some .null)) (h : x_V S 58 73 L (.null :: st) μ n Q) : x_V S 58 72 L st μ n Q := x_aload_nN d58_72 hl h
theorem s58_73 {S : Nat × (Nat → Int32)} {L : List (Option Value)} {st : List Value} {n : Nat} {Q : xQ} {g : Nat → Nat → Int} {a : Nat} (hs : x_sh a = (4, 12)) (hp : x_pt a 4 = none) (ha : a ≠ x_out) (h : x_V S 58 76 L (.int (I (g a 4)) :: st) (x_vm g) n Q) : x_V S 58 73 L (.ref a :: st) (x_vm g) n Q := v_get (i := 4) cf4 d58_73 (by decide) w185 hs hp ha h
theorem s58_76 {S : Nat × (Nat → Int32)} {L : List (Option Value)} {st : List Value} {n : Nat} {Q : xQ} {μ : xM}  (h : x_V S 58 77 L (.int (I 0) :: st) μ n Q) : x_V S 58 76 L (st) μ n Q := x_iconst (by decide +kernel) d58_76 h
theorem s58_77 {S : Nat × (Nat → Int32)} {L : List (Option Value)} {st : List Value} {n : Nat} {Q : xQ} {μ : xM} {x0 : Int32} {x1 : Int32} {x2 : Int32} {a : Nat} (hs : x_sh a = (4, 12)) (hst : st.length ≤ 4) (h : x_V S 68 0 [some (.ref a), some (.int x0), some (.int x1), some (.int x2), none] [] μ n (x_bk S 58 77 L st Q)) : x_V S 58 77 L (.int x2 :: .int x1 :: .int x0 :: .ref a :: st) μ n Q := x_callV (k' := 68) (as := [.int x0, .int x1, .int x2]) (na := 3) d58_77 ⟨w256, by decide +kernel, by decide, by decide, by decide, by decide, by decide⟩ cf4 w253 w255 wp2 (by decide +kernel) rfl hs (fun v hv => by
    simp only [List.mem_cons, List.not_mem_nil, or_false] at hv
    rcases hv with rfl | rfl | rfl <;> first | rfl | assumption) hst h
theorem s58_80 {S : Nat × (Nat → Int32)} {L : List (Option Value)} {st : List Value} {n : Nat} {Q : xQ} {μ : xM} {x : Int32} (hl : L[1]? = some (some (.int x))) (h : x_V S 58 81 L (.int x :: st) μ n Q) : x_V S 58 80 L (st) μ n Q := x_iload_n d58_80 hl h
theorem s58_81 {S : Nat × (Nat → Int32)} {L : List (Option Value)} {st : List Value} {n : Nat} {Q : xQ} {μ : xM} {x : Int32} (hl : L[3]? = some (some (.int x))) (h : x_V S 58 82 L (.int x :: st) μ n Q) : x_V S 58 81 L (st) μ n Q := x_iload_n d58_81 hl h
theorem s58_82 {S : Nat × (Nat → Int32)} {L : List (Option Value)} {st : List Value} {n : Nat} {Q : xQ} {μ : xM} {x : Int32} (hl : L[4]? = some (some (.int x))) (h : x_V S 58 84 L (.int x :: st) μ n Q) : x_V S 58 82 L (st) μ n Q := x_iload d58_82 hl h
theorem s58_84 {S : Nat × (Nat → Int32)} {L : List (Option Value)} {st : List Value} {n : Nat} {Q : xQ} {μ : xM} {x : Int32} (hl : L[5]? = some (some (.int x))) (h : x_V S 58 86 L (.int x :: st) μ n Q) : x_V S 58 84 L (st) μ n Q := x_iload d58_84 hl h
theorem s58_86 {S : Nat × (Nat → Int32)} {L : List (Option Value)} {st : List Value} {n : Nat} {Q : xQ} {μ : xM} {x0 : Int32} {x1 : Int32} {x2 : Int32} {x3 : Int32} {a : Nat} (hs : x_sh a = (3, 4)) (hst : st.length ≤ 4) (h : x_V S 23 0 [some (.ref a), some (.int x0), some (.int x1), some (.int x2), some (.int x3)] [] μ n (x_bk S 58 86 L st Q)) : x_V S 58 86 L (.int x3 :: .int x2 :: .int x1 :: .int x0 :: .ref a :: st) μ n Q := x_callV (k' := 23) (as := [.int x0, .int x1, .int x2, .int x3]) (na := 4) d58_86 ⟨w268, by decide +kernel, by decide, by decide, by decide, by decide, by decide⟩ cf3 w265 w266 w267 (by decide +kernel) rfl hs (fun v hv => by
    simp only [List.mem_cons, List.not_mem_nil, or_false] at hv
    rcases hv with rfl | rfl | rfl | rfl <;> first | rfl | assumption) hst h
theorem s58_89 {S : Nat × (Nat → Int32)} {L : List (Option Value)} {st : List Value} {n : Nat} {Q : xQ} {μ : xM} {a : Nat} (hl : L[0]? = some (some (.ref a))) (h : x_V S 58 90 L (.ref a :: st) μ n Q) : x_V S 58 89 L (st) μ n Q := x_aload_n d58_89 hl h
theorem s58_89N {S : Nat × (Nat → Int32)} {L : List (Option Value)} {st : List Value} {n : Nat} {Q : xQ} {μ : xM} (hl : L[0]? = some (some .null)) (h : x_V S 58 90 L (.null :: st) μ n Q) : x_V S 58 89 L st μ n Q := x_aload_nN d58_89 hl h
theorem s58_90 {S : Nat × (Nat → Int32)} {L : List (Option Value)} {st : List Value} {n : Nat} {Q : xQ} {μ : xM} {v : Value} (hc : v.category = 1) (h : x_V S 58 91 L (v :: v :: st) μ n Q) : x_V S 58 90 L (v :: st) μ n Q := x_dup hc d58_90 h
theorem s58_91 {S : Nat × (Nat → Int32)} {L : List (Option Value)} {st : List Value} {n : Nat} {Q : xQ} {g : Nat → Nat → Int} {a : Nat} (hs : x_sh a = (4, 12)) (hp : x_pt a 4 = none) (ha : a ≠ x_out) (h : x_V S 58 94 L (.int (I (g a 4)) :: st) (x_vm g) n Q) : x_V S 58 91 L (.ref a :: st) (x_vm g) n Q := v_get (i := 4) cf4 d58_91 (by decide) w185 hs hp ha h
theorem s58_94 {S : Nat × (Nat → Int32)} {L : List (Option Value)} {st : List Value} {n : Nat} {Q : xQ} {μ : xM}  (h : x_V S 58 95 L (.int (I 1) :: st) μ n Q) : x_V S 58 94 L (st) μ n Q := x_iconst (by decide +kernel) d58_94 h
theorem s58_95 {S : Nat × (Nat → Int32)} {L : List (Option Value)} {st : List Value} {n : Nat} {Q : xQ} {μ : xM} {x y : Int} (h : x_V S 58 96 L (.int (I (x + y)) :: st) μ n Q) : x_V S 58 95 L (.int (I y) :: .int (I x) :: st) μ n Q := v_iadd d58_95 h
theorem s58_96 {S : Nat × (Nat → Int32)} {L : List (Option Value)} {st : List Value} {n : Nat} {Q : xQ} {g : Nat → Nat → Int} {a : Nat} {x : Int} (hs : x_sh a = (4, 12)) (hp : x_pt a 4 = none) (ha : a ≠ x_out) (h : x_V S 58 99 L (st) (x_vm (x_uf g a 4 x)) n Q) : x_V S 58 96 L (.int (I x) :: .ref a :: st) (x_vm g) n Q := v_put (i := 4) cf4 d58_96 (by decide) rfl w185 hs rfl hp ha h
theorem s58_99 {S : Nat × (Nat → Int32)} {L : List (Option Value)} {st : List Value} {n : Nat} {Q : xQ} {μ : xM}  (h : Q (.inl none) μ n) : x_V S 58 99 L ([]) μ n Q := x_return d58_99 rfl h
theorem mC_59 : mC 59 = prog_9_method_6_code := rfl
theorem d59_0 : decode (mC 59) 0 = .ok (.iload_n 1, 1) := by rw [mC_59]; decide +kernel
theorem d59_1 : decode (mC 59) 1 = .ok (.ifCond .eq 5, 3) := by rw [mC_59]; decide +kernel
theorem d59_4 : decode (mC 59) 4 = .ok (.iconst 1, 1) := by rw [mC_59]; decide +kernel
theorem d59_5 : decode (mC 59) 5 = .ok (.ireturn, 1) := by rw [mC_59]; decide +kernel
theorem d59_6 : decode (mC 59) 6 = .ok (.aload_n 0, 1) := by rw [mC_59]; decide +kernel
theorem d59_7 : decode (mC 59) 7 = .ok (.getfield 39, 3) := by rw [mC_59]; decide +kernel
theorem d59_10 : decode (mC 59) 10 = .ok (.ifCond .eq 7, 3) := by rw [mC_59]; decide +kernel
theorem d59_13 : decode (mC 59) 13 = .ok (.aload_n 0, 1) := by rw [mC_59]; decide +kernel
theorem d59_14 : decode (mC 59) 14 = .ok (.invokevirtual 88, 3) := by rw [mC_59]; decide +kernel
theorem d59_17 : decode (mC 59) 17 = .ok (.iconst 4, 1) := by rw [mC_59]; decide +kernel
theorem d59_18 : decode (mC 59) 18 = .ok (.ireturn, 1) := by rw [mC_59]; decide +kernel
theorem s59_0 {S : Nat × (Nat → Int32)} {L : List (Option Value)} {st : List Value} {n : Nat} {Q : xQ} {μ : xM} {x : Int32} (hl : L[1]? = some (some (.int x))) (h : x_V S 59 1 L (.int x :: st) μ n Q) : x_V S 59 0 L (st) μ n Q := x_iload_n d59_0 hl h
theorem s59_1 {S : Nat × (Nat → Int32)} {L : List (Option Value)} {st : List Value} {n : Nat} {Q : xQ} {μ : xM} {x : Int} (hx : ib x) (kt : x = 0 → x_V S 59 6 L (st) μ n Q) (kf : x ≠ 0 → x_V S 59 4 L (st) μ n Q) : x_V S 59 1 L (.int (I x) :: st) μ n Q := v_if_eq d59_1 (by decide) hx kt kf
theorem s59_4 {S : Nat × (Nat → Int32)} {L : List (Option Value)} {st : List Value} {n : Nat} {Q : xQ} {μ : xM}  (h : x_V S 59 5 L (.int (I 1) :: st) μ n Q) : x_V S 59 4 L (st) μ n Q := x_iconst (by decide +kernel) d59_4 h
theorem s59_5 {S : Nat × (Nat → Int32)} {L : List (Option Value)} {st : List Value} {n : Nat} {Q : xQ} {μ : xM} {x : Int32} (h : Q (.inl (some (.int x))) μ n) : x_V S 59 5 L (.int x :: []) μ n Q := x_ireturn d59_5 rfl rfl h
theorem s59_6 {S : Nat × (Nat → Int32)} {L : List (Option Value)} {st : List Value} {n : Nat} {Q : xQ} {μ : xM} {a : Nat} (hl : L[0]? = some (some (.ref a))) (h : x_V S 59 7 L (.ref a :: st) μ n Q) : x_V S 59 6 L (st) μ n Q := x_aload_n d59_6 hl h
theorem s59_6N {S : Nat × (Nat → Int32)} {L : List (Option Value)} {st : List Value} {n : Nat} {Q : xQ} {μ : xM} (hl : L[0]? = some (some .null)) (h : x_V S 59 7 L (.null :: st) μ n Q) : x_V S 59 6 L st μ n Q := x_aload_nN d59_6 hl h
theorem s59_7 {S : Nat × (Nat → Int32)} {L : List (Option Value)} {st : List Value} {n : Nat} {Q : xQ} {g : Nat → Nat → Int} {a : Nat} (hs : x_sh a = (4, 12)) (hp : x_pt a 6 = none) (ha : a ≠ x_out) (h : x_V S 59 10 L (.int (I (g a 6)) :: st) (x_vm g) n Q) : x_V S 59 7 L (.ref a :: st) (x_vm g) n Q := v_get (i := 6) cf4 d59_7 (by decide) w189 hs hp ha h
theorem s59_10 {S : Nat × (Nat → Int32)} {L : List (Option Value)} {st : List Value} {n : Nat} {Q : xQ} {μ : xM} {x : Int} (hx : ib x) (kt : x = 0 → x_V S 59 17 L (st) μ n Q) (kf : x ≠ 0 → x_V S 59 13 L (st) μ n Q) : x_V S 59 10 L (.int (I x) :: st) μ n Q := v_if_eq d59_10 (by decide) hx kt kf
theorem s59_13 {S : Nat × (Nat → Int32)} {L : List (Option Value)} {st : List Value} {n : Nat} {Q : xQ} {μ : xM} {a : Nat} (hl : L[0]? = some (some (.ref a))) (h : x_V S 59 14 L (.ref a :: st) μ n Q) : x_V S 59 13 L (st) μ n Q := x_aload_n d59_13 hl h
theorem s59_13N {S : Nat × (Nat → Int32)} {L : List (Option Value)} {st : List Value} {n : Nat} {Q : xQ} {μ : xM} (hl : L[0]? = some (some .null)) (h : x_V S 59 14 L (.null :: st) μ n Q) : x_V S 59 13 L st μ n Q := x_aload_nN d59_13 hl h
theorem s59_14 {S : Nat × (Nat → Int32)} {L : List (Option Value)} {st : List Value} {n : Nat} {Q : xQ} {μ : xM}  {a : Nat} (hs : x_sh a = (4, 12)) (hst : st.length ≤ 4) (h : x_V S 64 0 [some (.ref a)] [] μ n (x_bk S 59 14 L st Q)) : x_V S 59 14 L (.ref a :: st) μ n Q := x_callV (k' := 64) (as := []) (na := 0) d59_14 ⟨w248, by decide +kernel, by decide, by decide, by decide, by decide, by decide⟩ cf4 w245 w247 wp0 (by decide +kernel) rfl hs (fun v hv => by
    cases hv) hst h
theorem s59_17 {S : Nat × (Nat → Int32)} {L : List (Option Value)} {st : List Value} {n : Nat} {Q : xQ} {μ : xM}  (h : x_V S 59 18 L (.int (I 4) :: st) μ n Q) : x_V S 59 17 L (st) μ n Q := x_iconst (by decide +kernel) d59_17 h
theorem s59_18 {S : Nat × (Nat → Int32)} {L : List (Option Value)} {st : List Value} {n : Nat} {Q : xQ} {μ : xM} {x : Int32} (h : Q (.inl (some (.int x))) μ n) : x_V S 59 18 L (.int x :: []) μ n Q := x_ireturn d59_18 rfl rfl h
theorem mC_60 : mC 60 = prog_9_method_7_code := rfl
theorem d60_0 : decode (mC 60) 0 = .ok (.aload_n 1, 1) := by rw [mC_60]; decide +kernel
theorem d60_1 : decode (mC 60) 1 = .ok (.getfield 43, 3) := by rw [mC_60]; decide +kernel
theorem d60_4 : decode (mC 60) 4 = .ok (.bipush 50, 2) := by rw [mC_60]; decide +kernel
theorem d60_6 : decode (mC 60) 6 = .ok (.if_icmp .ne 22, 3) := by rw [mC_60]; decide +kernel
theorem d60_9 : decode (mC 60) 9 = .ok (.aload_n 0, 1) := by rw [mC_60]; decide +kernel
theorem d60_10 : decode (mC 60) 10 = .ok (.aload_n 1, 1) := by rw [mC_60]; decide +kernel
theorem d60_11 : decode (mC 60) 11 = .ok (.getfield 58, 3) := by rw [mC_60]; decide +kernel
theorem d60_14 : decode (mC 60) 14 = .ok (.iconst 0, 1) := by rw [mC_60]; decide +kernel
theorem d60_15 : decode (mC 60) 15 = .ok (.iaload, 1) := by rw [mC_60]; decide +kernel
theorem d60_16 : decode (mC 60) 16 = .ok (.aload_n 1, 1) := by rw [mC_60]; decide +kernel
theorem d60_17 : decode (mC 60) 17 = .ok (.getfield 58, 3) := by rw [mC_60]; decide +kernel
theorem d60_20 : decode (mC 60) 20 = .ok (.iconst 1, 1) := by rw [mC_60]; decide +kernel
theorem d60_21 : decode (mC 60) 21 = .ok (.iaload, 1) := by rw [mC_60]; decide +kernel
theorem d60_22 : decode (mC 60) 22 = .ok (.invokevirtual 127, 3) := by rw [mC_60]; decide +kernel
theorem d60_25 : decode (mC 60) 25 = .ok (.goto 16, 3) := by rw [mC_60]; decide +kernel
theorem d60_28 : decode (mC 60) 28 = .ok (.aload_n 1, 1) := by rw [mC_60]; decide +kernel
theorem d60_29 : decode (mC 60) 29 = .ok (.getfield 43, 3) := by rw [mC_60]; decide +kernel
theorem d60_32 : decode (mC 60) 32 = .ok (.bipush 53, 2) := by rw [mC_60]; decide +kernel
theorem d60_34 : decode (mC 60) 34 = .ok (.if_icmp .ne 7, 3) := by rw [mC_60]; decide +kernel
theorem d60_37 : decode (mC 60) 37 = .ok (.aload_n 0, 1) := by rw [mC_60]; decide +kernel
theorem d60_38 : decode (mC 60) 38 = .ok (.invokevirtual 88, 3) := by rw [mC_60]; decide +kernel
theorem d60_41 : decode (mC 60) 41 = .ok (.aload_n 0, 1) := by rw [mC_60]; decide +kernel
theorem d60_42 : decode (mC 60) 42 = .ok (.getfield 39, 3) := by rw [mC_60]; decide +kernel
theorem d60_45 : decode (mC 60) 45 = .ok (.ifCond .eq 29, 3) := by rw [mC_60]; decide +kernel
theorem d60_48 : decode (mC 60) 48 = .ok (.aload_n 0, 1) := by rw [mC_60]; decide +kernel
theorem d60_49 : decode (mC 60) 49 = .ok (.getfield 91, 3) := by rw [mC_60]; decide +kernel
theorem d60_52 : decode (mC 60) 52 = .ok (.ifCond .ne 7, 3) := by rw [mC_60]; decide +kernel
theorem d60_55 : decode (mC 60) 55 = .ok (.aload_n 0, 1) := by rw [mC_60]; decide +kernel
theorem d60_56 : decode (mC 60) 56 = .ok (.invokevirtual 97, 3) := by rw [mC_60]; decide +kernel
theorem d60_59 : decode (mC 60) 59 = .ok (.aload_n 0, 1) := by rw [mC_60]; decide +kernel
theorem d60_60 : decode (mC 60) 60 = .ok (.aload_n 0, 1) := by rw [mC_60]; decide +kernel
theorem d60_61 : decode (mC 60) 61 = .ok (.getfield 91, 3) := by rw [mC_60]; decide +kernel
theorem d60_64 : decode (mC 60) 64 = .ok (.aload_n 1, 1) := by rw [mC_60]; decide +kernel
theorem d60_65 : decode (mC 60) 65 = .ok (.getfield 66, 3) := by rw [mC_60]; decide +kernel
theorem d60_68 : decode (mC 60) 68 = .ok (.invokestatic 131, 3) := by rw [mC_60]; decide +kernel
theorem d60_71 : decode (mC 60) 71 = .ok (.putfield 91, 3) := by rw [mC_60]; decide +kernel
theorem d60_74 : decode (mC 60) 74 = .ok (.iconst 3, 1) := by rw [mC_60]; decide +kernel
theorem d60_75 : decode (mC 60) 75 = .ok (.ireturn, 1) := by rw [mC_60]; decide +kernel
theorem s60_0 {S : Nat × (Nat → Int32)} {L : List (Option Value)} {st : List Value} {n : Nat} {Q : xQ} {μ : xM} {a : Nat} (hl : L[1]? = some (some (.ref a))) (h : x_V S 60 1 L (.ref a :: st) μ n Q) : x_V S 60 0 L (st) μ n Q := x_aload_n d60_0 hl h
theorem s60_0N {S : Nat × (Nat → Int32)} {L : List (Option Value)} {st : List Value} {n : Nat} {Q : xQ} {μ : xM} (hl : L[1]? = some (some .null)) (h : x_V S 60 1 L (.null :: st) μ n Q) : x_V S 60 0 L st μ n Q := x_aload_nN d60_0 hl h
theorem s60_1 {S : Nat × (Nat → Int32)} {L : List (Option Value)} {st : List Value} {n : Nat} {Q : xQ} {g : Nat → Nat → Int} {a : Nat} (hs : x_sh a = (3, 4)) (hp : x_pt a 0 = none) (ha : a ≠ x_out) (h : x_V S 60 4 L (.int (I (g a 0)) :: st) (x_vm g) n Q) : x_V S 60 1 L (.ref a :: st) (x_vm g) n Q := v_get (i := 0) cf3 d60_1 (by decide) w66 hs hp ha h
theorem s60_4 {S : Nat × (Nat → Int32)} {L : List (Option Value)} {st : List Value} {n : Nat} {Q : xQ} {μ : xM}  (h : x_V S 60 6 L (.int (I 50) :: st) μ n Q) : x_V S 60 4 L (st) μ n Q := x_bipush (by decide +kernel) d60_4 h
theorem s60_6 {S : Nat × (Nat → Int32)} {L : List (Option Value)} {st : List Value} {n : Nat} {Q : xQ} {μ : xM} {x y : Int} (hx : ib x) (hy : ib y) (kt : x ≠ y → x_V S 60 28 L (st) μ n Q) (kf : x = y → x_V S 60 9 L (st) μ n Q) : x_V S 60 6 L (.int (I y) :: .int (I x) :: st) μ n Q := v_icmp_ne d60_6 (by decide) hx hy kt kf
theorem s60_9 {S : Nat × (Nat → Int32)} {L : List (Option Value)} {st : List Value} {n : Nat} {Q : xQ} {μ : xM} {a : Nat} (hl : L[0]? = some (some (.ref a))) (h : x_V S 60 10 L (.ref a :: st) μ n Q) : x_V S 60 9 L (st) μ n Q := x_aload_n d60_9 hl h
theorem s60_9N {S : Nat × (Nat → Int32)} {L : List (Option Value)} {st : List Value} {n : Nat} {Q : xQ} {μ : xM} (hl : L[0]? = some (some .null)) (h : x_V S 60 10 L (.null :: st) μ n Q) : x_V S 60 9 L st μ n Q := x_aload_nN d60_9 hl h
theorem s60_10 {S : Nat × (Nat → Int32)} {L : List (Option Value)} {st : List Value} {n : Nat} {Q : xQ} {μ : xM} {a : Nat} (hl : L[1]? = some (some (.ref a))) (h : x_V S 60 11 L (.ref a :: st) μ n Q) : x_V S 60 10 L (st) μ n Q := x_aload_n d60_10 hl h
theorem s60_10N {S : Nat × (Nat → Int32)} {L : List (Option Value)} {st : List Value} {n : Nat} {Q : xQ} {μ : xM} (hl : L[1]? = some (some .null)) (h : x_V S 60 11 L (.null :: st) μ n Q) : x_V S 60 10 L st μ n Q := x_aload_nN d60_10 hl h
theorem s60_11 {S : Nat × (Nat → Int32)} {L : List (Option Value)} {st : List Value} {n : Nat} {Q : xQ} {g : Nat → Nat → Int} {a : Nat} {v : Value} (hs : x_sh a = (3, 4)) (hp : x_pt a 3 = some v) (h : x_V S 60 14 L (v :: st) (x_vm g) n Q) : x_V S 60 11 L (.ref a :: st) (x_vm g) n Q := v_getp (i := 3) cf3 d60_11 (by decide) w74 hs hp h
theorem s60_14 {S : Nat × (Nat → Int32)} {L : List (Option Value)} {st : List Value} {n : Nat} {Q : xQ} {μ : xM}  (h : x_V S 60 15 L (.int (I 0) :: st) μ n Q) : x_V S 60 14 L (st) μ n Q := x_iconst (by decide +kernel) d60_14 h
theorem s60_16 {S : Nat × (Nat → Int32)} {L : List (Option Value)} {st : List Value} {n : Nat} {Q : xQ} {μ : xM} {a : Nat} (hl : L[1]? = some (some (.ref a))) (h : x_V S 60 17 L (.ref a :: st) μ n Q) : x_V S 60 16 L (st) μ n Q := x_aload_n d60_16 hl h
theorem s60_16N {S : Nat × (Nat → Int32)} {L : List (Option Value)} {st : List Value} {n : Nat} {Q : xQ} {μ : xM} (hl : L[1]? = some (some .null)) (h : x_V S 60 17 L (.null :: st) μ n Q) : x_V S 60 16 L st μ n Q := x_aload_nN d60_16 hl h
theorem s60_17 {S : Nat × (Nat → Int32)} {L : List (Option Value)} {st : List Value} {n : Nat} {Q : xQ} {g : Nat → Nat → Int} {a : Nat} {v : Value} (hs : x_sh a = (3, 4)) (hp : x_pt a 3 = some v) (h : x_V S 60 20 L (v :: st) (x_vm g) n Q) : x_V S 60 17 L (.ref a :: st) (x_vm g) n Q := v_getp (i := 3) cf3 d60_17 (by decide) w74 hs hp h
theorem s60_20 {S : Nat × (Nat → Int32)} {L : List (Option Value)} {st : List Value} {n : Nat} {Q : xQ} {μ : xM}  (h : x_V S 60 21 L (.int (I 1) :: st) μ n Q) : x_V S 60 20 L (st) μ n Q := x_iconst (by decide +kernel) d60_20 h
theorem s60_22 {S : Nat × (Nat → Int32)} {L : List (Option Value)} {st : List Value} {n : Nat} {Q : xQ} {μ : xM} {x0 : Int32} {x1 : Int32} {a : Nat} (hs : x_sh a = (4, 12)) (hst : st.length ≤ 4) (h : x_V S 66 0 [some (.ref a), some (.int x0), some (.int x1), none, none, none, none] [] μ n (x_bk S 60 22 L st Q)) : x_V S 60 22 L (.int x1 :: .int x0 :: .ref a :: st) μ n Q := x_callV (k' := 66) (as := [.int x0, .int x1]) (na := 2) d60_22 ⟨w554, by decide +kernel, by decide, by decide, by decide, by decide, by decide⟩ cf4 w551 w553 wp17 (by decide +kernel) rfl hs (fun v hv => by
    simp only [List.mem_cons, List.not_mem_nil, or_false] at hv
    rcases hv with rfl | rfl <;> first | rfl | assumption) hst h
theorem s60_25 {S : Nat × (Nat → Int32)} {L : List (Option Value)} {st : List Value} {n : Nat} {Q : xQ} {μ : xM}  (h : x_V S 60 41 L (st) μ n Q) : x_V S 60 25 L (st) μ n Q := x_goto (tgt := 41) (by decide) d60_25 h
theorem s60_28 {S : Nat × (Nat → Int32)} {L : List (Option Value)} {st : List Value} {n : Nat} {Q : xQ} {μ : xM} {a : Nat} (hl : L[1]? = some (some (.ref a))) (h : x_V S 60 29 L (.ref a :: st) μ n Q) : x_V S 60 28 L (st) μ n Q := x_aload_n d60_28 hl h
theorem s60_28N {S : Nat × (Nat → Int32)} {L : List (Option Value)} {st : List Value} {n : Nat} {Q : xQ} {μ : xM} (hl : L[1]? = some (some .null)) (h : x_V S 60 29 L (.null :: st) μ n Q) : x_V S 60 28 L st μ n Q := x_aload_nN d60_28 hl h
theorem s60_29 {S : Nat × (Nat → Int32)} {L : List (Option Value)} {st : List Value} {n : Nat} {Q : xQ} {g : Nat → Nat → Int} {a : Nat} (hs : x_sh a = (3, 4)) (hp : x_pt a 0 = none) (ha : a ≠ x_out) (h : x_V S 60 32 L (.int (I (g a 0)) :: st) (x_vm g) n Q) : x_V S 60 29 L (.ref a :: st) (x_vm g) n Q := v_get (i := 0) cf3 d60_29 (by decide) w66 hs hp ha h
theorem s60_32 {S : Nat × (Nat → Int32)} {L : List (Option Value)} {st : List Value} {n : Nat} {Q : xQ} {μ : xM}  (h : x_V S 60 34 L (.int (I 53) :: st) μ n Q) : x_V S 60 32 L (st) μ n Q := x_bipush (by decide +kernel) d60_32 h
theorem s60_34 {S : Nat × (Nat → Int32)} {L : List (Option Value)} {st : List Value} {n : Nat} {Q : xQ} {μ : xM} {x y : Int} (hx : ib x) (hy : ib y) (kt : x ≠ y → x_V S 60 41 L (st) μ n Q) (kf : x = y → x_V S 60 37 L (st) μ n Q) : x_V S 60 34 L (.int (I y) :: .int (I x) :: st) μ n Q := v_icmp_ne d60_34 (by decide) hx hy kt kf
theorem s60_37 {S : Nat × (Nat → Int32)} {L : List (Option Value)} {st : List Value} {n : Nat} {Q : xQ} {μ : xM} {a : Nat} (hl : L[0]? = some (some (.ref a))) (h : x_V S 60 38 L (.ref a :: st) μ n Q) : x_V S 60 37 L (st) μ n Q := x_aload_n d60_37 hl h
theorem s60_37N {S : Nat × (Nat → Int32)} {L : List (Option Value)} {st : List Value} {n : Nat} {Q : xQ} {μ : xM} (hl : L[0]? = some (some .null)) (h : x_V S 60 38 L (.null :: st) μ n Q) : x_V S 60 37 L st μ n Q := x_aload_nN d60_37 hl h
theorem s60_38 {S : Nat × (Nat → Int32)} {L : List (Option Value)} {st : List Value} {n : Nat} {Q : xQ} {μ : xM}  {a : Nat} (hs : x_sh a = (4, 12)) (hst : st.length ≤ 4) (h : x_V S 64 0 [some (.ref a)] [] μ n (x_bk S 60 38 L st Q)) : x_V S 60 38 L (.ref a :: st) μ n Q := x_callV (k' := 64) (as := []) (na := 0) d60_38 ⟨w248, by decide +kernel, by decide, by decide, by decide, by decide, by decide⟩ cf4 w245 w247 wp0 (by decide +kernel) rfl hs (fun v hv => by
    cases hv) hst h
theorem s60_41 {S : Nat × (Nat → Int32)} {L : List (Option Value)} {st : List Value} {n : Nat} {Q : xQ} {μ : xM} {a : Nat} (hl : L[0]? = some (some (.ref a))) (h : x_V S 60 42 L (.ref a :: st) μ n Q) : x_V S 60 41 L (st) μ n Q := x_aload_n d60_41 hl h
theorem s60_41N {S : Nat × (Nat → Int32)} {L : List (Option Value)} {st : List Value} {n : Nat} {Q : xQ} {μ : xM} (hl : L[0]? = some (some .null)) (h : x_V S 60 42 L (.null :: st) μ n Q) : x_V S 60 41 L st μ n Q := x_aload_nN d60_41 hl h
theorem s60_42 {S : Nat × (Nat → Int32)} {L : List (Option Value)} {st : List Value} {n : Nat} {Q : xQ} {g : Nat → Nat → Int} {a : Nat} (hs : x_sh a = (4, 12)) (hp : x_pt a 6 = none) (ha : a ≠ x_out) (h : x_V S 60 45 L (.int (I (g a 6)) :: st) (x_vm g) n Q) : x_V S 60 42 L (.ref a :: st) (x_vm g) n Q := v_get (i := 6) cf4 d60_42 (by decide) w189 hs hp ha h
theorem s60_45 {S : Nat × (Nat → Int32)} {L : List (Option Value)} {st : List Value} {n : Nat} {Q : xQ} {μ : xM} {x : Int} (hx : ib x) (kt : x = 0 → x_V S 60 74 L (st) μ n Q) (kf : x ≠ 0 → x_V S 60 48 L (st) μ n Q) : x_V S 60 45 L (.int (I x) :: st) μ n Q := v_if_eq d60_45 (by decide) hx kt kf
theorem s60_48 {S : Nat × (Nat → Int32)} {L : List (Option Value)} {st : List Value} {n : Nat} {Q : xQ} {μ : xM} {a : Nat} (hl : L[0]? = some (some (.ref a))) (h : x_V S 60 49 L (.ref a :: st) μ n Q) : x_V S 60 48 L (st) μ n Q := x_aload_n d60_48 hl h
theorem s60_48N {S : Nat × (Nat → Int32)} {L : List (Option Value)} {st : List Value} {n : Nat} {Q : xQ} {μ : xM} (hl : L[0]? = some (some .null)) (h : x_V S 60 49 L (.null :: st) μ n Q) : x_V S 60 48 L st μ n Q := x_aload_nN d60_48 hl h
theorem s60_49 {S : Nat × (Nat → Int32)} {L : List (Option Value)} {st : List Value} {n : Nat} {Q : xQ} {g : Nat → Nat → Int} {a : Nat} (hs : x_sh a = (4, 12)) (hp : x_pt a 5 = none) (ha : a ≠ x_out) (h : x_V S 60 52 L (.int (I (g a 5)) :: st) (x_vm g) n Q) : x_V S 60 49 L (.ref a :: st) (x_vm g) n Q := v_get (i := 5) cf4 d60_49 (by decide) w187 hs hp ha h
theorem s60_52 {S : Nat × (Nat → Int32)} {L : List (Option Value)} {st : List Value} {n : Nat} {Q : xQ} {μ : xM} {x : Int} (hx : ib x) (kt : x ≠ 0 → x_V S 60 59 L (st) μ n Q) (kf : x = 0 → x_V S 60 55 L (st) μ n Q) : x_V S 60 52 L (.int (I x) :: st) μ n Q := v_if_ne d60_52 (by decide) hx kt kf
theorem s60_55 {S : Nat × (Nat → Int32)} {L : List (Option Value)} {st : List Value} {n : Nat} {Q : xQ} {μ : xM} {a : Nat} (hl : L[0]? = some (some (.ref a))) (h : x_V S 60 56 L (.ref a :: st) μ n Q) : x_V S 60 55 L (st) μ n Q := x_aload_n d60_55 hl h
theorem s60_55N {S : Nat × (Nat → Int32)} {L : List (Option Value)} {st : List Value} {n : Nat} {Q : xQ} {μ : xM} (hl : L[0]? = some (some .null)) (h : x_V S 60 56 L (.null :: st) μ n Q) : x_V S 60 55 L st μ n Q := x_aload_nN d60_55 hl h
theorem s60_56 {S : Nat × (Nat → Int32)} {L : List (Option Value)} {st : List Value} {n : Nat} {Q : xQ} {μ : xM}  {a : Nat} (hs : x_sh a = (4, 12)) (hst : st.length ≤ 4) (h : x_V S 63 0 [some (.ref a)] [] μ n (x_bk S 60 56 L st Q)) : x_V S 60 56 L (.ref a :: st) μ n Q := x_callV (k' := 63) (as := []) (na := 0) d60_56 ⟨w276, by decide +kernel, by decide, by decide, by decide, by decide, by decide⟩ cf4 w273 w275 wp3 (by decide +kernel) rfl hs (fun v hv => by
    cases hv) hst h
theorem s60_59 {S : Nat × (Nat → Int32)} {L : List (Option Value)} {st : List Value} {n : Nat} {Q : xQ} {μ : xM} {a : Nat} (hl : L[0]? = some (some (.ref a))) (h : x_V S 60 60 L (.ref a :: st) μ n Q) : x_V S 60 59 L (st) μ n Q := x_aload_n d60_59 hl h
theorem s60_59N {S : Nat × (Nat → Int32)} {L : List (Option Value)} {st : List Value} {n : Nat} {Q : xQ} {μ : xM} (hl : L[0]? = some (some .null)) (h : x_V S 60 60 L (.null :: st) μ n Q) : x_V S 60 59 L st μ n Q := x_aload_nN d60_59 hl h
theorem s60_60 {S : Nat × (Nat → Int32)} {L : List (Option Value)} {st : List Value} {n : Nat} {Q : xQ} {μ : xM} {a : Nat} (hl : L[0]? = some (some (.ref a))) (h : x_V S 60 61 L (.ref a :: st) μ n Q) : x_V S 60 60 L (st) μ n Q := x_aload_n d60_60 hl h
theorem s60_60N {S : Nat × (Nat → Int32)} {L : List (Option Value)} {st : List Value} {n : Nat} {Q : xQ} {μ : xM} (hl : L[0]? = some (some .null)) (h : x_V S 60 61 L (.null :: st) μ n Q) : x_V S 60 60 L st μ n Q := x_aload_nN d60_60 hl h
theorem s60_61 {S : Nat × (Nat → Int32)} {L : List (Option Value)} {st : List Value} {n : Nat} {Q : xQ} {g : Nat → Nat → Int} {a : Nat} (hs : x_sh a = (4, 12)) (hp : x_pt a 5 = none) (ha : a ≠ x_out) (h : x_V S 60 64 L (.int (I (g a 5)) :: st) (x_vm g) n Q) : x_V S 60 61 L (.ref a :: st) (x_vm g) n Q := v_get (i := 5) cf4 d60_61 (by decide) w187 hs hp ha h
theorem s60_64 {S : Nat × (Nat → Int32)} {L : List (Option Value)} {st : List Value} {n : Nat} {Q : xQ} {μ : xM} {a : Nat} (hl : L[1]? = some (some (.ref a))) (h : x_V S 60 65 L (.ref a :: st) μ n Q) : x_V S 60 64 L (st) μ n Q := x_aload_n d60_64 hl h
theorem s60_64N {S : Nat × (Nat → Int32)} {L : List (Option Value)} {st : List Value} {n : Nat} {Q : xQ} {μ : xM} (hl : L[1]? = some (some .null)) (h : x_V S 60 65 L (.null :: st) μ n Q) : x_V S 60 64 L st μ n Q := x_aload_nN d60_64 hl h
theorem s60_65 {S : Nat × (Nat → Int32)} {L : List (Option Value)} {st : List Value} {n : Nat} {Q : xQ} {g : Nat → Nat → Int} {a : Nat} (hs : x_sh a = (3, 4)) (hp : x_pt a 1 = none) (ha : a ≠ x_out) (h : x_V S 60 68 L (.int (I (g a 1)) :: st) (x_vm g) n Q) : x_V S 60 65 L (.ref a :: st) (x_vm g) n Q := v_get (i := 1) cf3 d60_65 (by decide) w70 hs hp ha h
theorem s60_68 {S : Nat × (Nat → Int32)} {L : List (Option Value)} {st : List Value} {n : Nat} {Q : xQ} {μ : xM} {x y : Int} (hst : st.length ≤ 4) (hx : ib x) (hy : ib y) (h : x_V S 60 71 L (.int (I (if x < y then y else x)) :: st) μ n Q) : x_V S 60 68 L (.int (I y) :: .int (I x) :: st) μ n Q := v_max d60_68 w555 w556 w18 w557 ⟨by decide, by decide⟩ hst hx hy h
theorem s60_71 {S : Nat × (Nat → Int32)} {L : List (Option Value)} {st : List Value} {n : Nat} {Q : xQ} {g : Nat → Nat → Int} {a : Nat} {x : Int} (hs : x_sh a = (4, 12)) (hp : x_pt a 5 = none) (ha : a ≠ x_out) (h : x_V S 60 74 L (st) (x_vm (x_uf g a 5 x)) n Q) : x_V S 60 71 L (.int (I x) :: .ref a :: st) (x_vm g) n Q := v_put (i := 5) cf4 d60_71 (by decide) rfl w187 hs rfl hp ha h
theorem s60_74 {S : Nat × (Nat → Int32)} {L : List (Option Value)} {st : List Value} {n : Nat} {Q : xQ} {μ : xM}  (h : x_V S 60 75 L (.int (I 3) :: st) μ n Q) : x_V S 60 74 L (st) μ n Q := x_iconst (by decide +kernel) d60_74 h
theorem s60_75 {S : Nat × (Nat → Int32)} {L : List (Option Value)} {st : List Value} {n : Nat} {Q : xQ} {μ : xM} {x : Int32} (h : Q (.inl (some (.int x))) μ n) : x_V S 60 75 L (.int x :: []) μ n Q := x_ireturn d60_75 rfl rfl h
theorem mC_61 : mC 61 = prog_9_method_8_code := rfl
theorem d61_0 : decode (mC 61) 0 = .ok (.aload_n 1, 1) := by rw [mC_61]; decide +kernel
theorem d61_1 : decode (mC 61) 1 = .ok (.getfield 43, 3) := by rw [mC_61]; decide +kernel
theorem d61_4 : decode (mC 61) 4 = .ok (.tableswitch 195 49 71 #[108, 124, 195, 143, 157, 195, 195, 195, 195, 195, 195, 195, 195, 195, 195, 195, 195, 195, 195, 164, 195, 164, 164], 108) := by rw [mC_61]; decide +kernel
theorem d61_112 : decode (mC 61) 112 = .ok (.aload_n 0, 1) := by rw [mC_61]; decide +kernel
theorem d61_113 : decode (mC 61) 113 = .ok (.bipush 48, 2) := by rw [mC_61]; decide +kernel
theorem d61_115 : decode (mC 61) 115 = .ok (.aload_n 1, 1) := by rw [mC_61]; decide +kernel
theorem d61_116 : decode (mC 61) 116 = .ok (.getfield 58, 3) := by rw [mC_61]; decide +kernel
theorem d61_119 : decode (mC 61) 119 = .ok (.iconst 0, 1) := by rw [mC_61]; decide +kernel
theorem d61_120 : decode (mC 61) 120 = .ok (.iaload, 1) := by rw [mC_61]; decide +kernel
theorem d61_121 : decode (mC 61) 121 = .ok (.iconst 0, 1) := by rw [mC_61]; decide +kernel
theorem d61_122 : decode (mC 61) 122 = .ok (.invokevirtual 76, 3) := by rw [mC_61]; decide +kernel
theorem d61_125 : decode (mC 61) 125 = .ok (.goto 74, 3) := by rw [mC_61]; decide +kernel
theorem d61_128 : decode (mC 61) 128 = .ok (.aload_n 0, 1) := by rw [mC_61]; decide +kernel
theorem d61_129 : decode (mC 61) 129 = .ok (.aload_n 1, 1) := by rw [mC_61]; decide +kernel
theorem d61_130 : decode (mC 61) 130 = .ok (.getfield 58, 3) := by rw [mC_61]; decide +kernel
theorem d61_133 : decode (mC 61) 133 = .ok (.iconst 0, 1) := by rw [mC_61]; decide +kernel
theorem d61_134 : decode (mC 61) 134 = .ok (.iaload, 1) := by rw [mC_61]; decide +kernel
theorem d61_135 : decode (mC 61) 135 = .ok (.aload_n 1, 1) := by rw [mC_61]; decide +kernel
theorem d61_136 : decode (mC 61) 136 = .ok (.getfield 58, 3) := by rw [mC_61]; decide +kernel
theorem d61_139 : decode (mC 61) 139 = .ok (.iconst 1, 1) := by rw [mC_61]; decide +kernel
theorem d61_140 : decode (mC 61) 140 = .ok (.iaload, 1) := by rw [mC_61]; decide +kernel
theorem d61_141 : decode (mC 61) 141 = .ok (.invokevirtual 127, 3) := by rw [mC_61]; decide +kernel
theorem d61_144 : decode (mC 61) 144 = .ok (.goto 55, 3) := by rw [mC_61]; decide +kernel
theorem d61_147 : decode (mC 61) 147 = .ok (.aload_n 0, 1) := by rw [mC_61]; decide +kernel
theorem d61_148 : decode (mC 61) 148 = .ok (.aload_n 1, 1) := by rw [mC_61]; decide +kernel
theorem d61_149 : decode (mC 61) 149 = .ok (.getfield 58, 3) := by rw [mC_61]; decide +kernel
theorem d61_152 : decode (mC 61) 152 = .ok (.iconst 0, 1) := by rw [mC_61]; decide +kernel
theorem d61_153 : decode (mC 61) 153 = .ok (.iaload, 1) := by rw [mC_61]; decide +kernel
theorem d61_154 : decode (mC 61) 154 = .ok (.invokevirtual 62, 3) := by rw [mC_61]; decide +kernel
theorem d61_157 : decode (mC 61) 157 = .ok (.pop, 1) := by rw [mC_61]; decide +kernel
theorem d61_158 : decode (mC 61) 158 = .ok (.goto 41, 3) := by rw [mC_61]; decide +kernel
theorem d61_161 : decode (mC 61) 161 = .ok (.aload_n 0, 1) := by rw [mC_61]; decide +kernel
theorem d61_162 : decode (mC 61) 162 = .ok (.invokevirtual 88, 3) := by rw [mC_61]; decide +kernel
theorem d61_165 : decode (mC 61) 165 = .ok (.goto 34, 3) := by rw [mC_61]; decide +kernel
theorem d61_168 : decode (mC 61) 168 = .ok (.aload_n 0, 1) := by rw [mC_61]; decide +kernel
theorem d61_169 : decode (mC 61) 169 = .ok (.dup, 1) := by rw [mC_61]; decide +kernel
theorem d61_170 : decode (mC 61) 170 = .ok (.getfield 137, 3) := by rw [mC_61]; decide +kernel
theorem d61_173 : decode (mC 61) 173 = .ok (.iconst 1, 1) := by rw [mC_61]; decide +kernel
theorem d61_174 : decode (mC 61) 174 = .ok (.iadd, 1) := by rw [mC_61]; decide +kernel
theorem d61_175 : decode (mC 61) 175 = .ok (.putfield 137, 3) := by rw [mC_61]; decide +kernel
theorem d61_178 : decode (mC 61) 178 = .ok (.aload_n 0, 1) := by rw [mC_61]; decide +kernel
theorem d61_179 : decode (mC 61) 179 = .ok (.aload_n 1, 1) := by rw [mC_61]; decide +kernel
theorem d61_180 : decode (mC 61) 180 = .ok (.getfield 58, 3) := by rw [mC_61]; decide +kernel
theorem d61_183 : decode (mC 61) 183 = .ok (.iconst 0, 1) := by rw [mC_61]; decide +kernel
theorem d61_184 : decode (mC 61) 184 = .ok (.iaload, 1) := by rw [mC_61]; decide +kernel
theorem d61_185 : decode (mC 61) 185 = .ok (.aload_n 0, 1) := by rw [mC_61]; decide +kernel
theorem d61_186 : decode (mC 61) 186 = .ok (.getfield 21, 3) := by rw [mC_61]; decide +kernel
theorem d61_189 : decode (mC 61) 189 = .ok (.aload_n 1, 1) := by rw [mC_61]; decide +kernel
theorem d61_190 : decode (mC 61) 190 = .ok (.invokevirtual 140, 3) := by rw [mC_61]; decide +kernel
theorem d61_193 : decode (mC 61) 193 = .ok (.invokevirtual 144, 3) := by rw [mC_61]; decide +kernel
theorem d61_196 : decode (mC 61) 196 = .ok (.goto 3, 3) := by rw [mC_61]; decide +kernel
theorem d61_199 : decode (mC 61) 199 = .ok (.return_, 1) := by rw [mC_61]; decide +kernel
theorem s61_0 {S : Nat × (Nat → Int32)} {L : List (Option Value)} {st : List Value} {n : Nat} {Q : xQ} {μ : xM} {a : Nat} (hl : L[1]? = some (some (.ref a))) (h : x_V S 61 1 L (.ref a :: st) μ n Q) : x_V S 61 0 L (st) μ n Q := x_aload_n d61_0 hl h
theorem s61_0N {S : Nat × (Nat → Int32)} {L : List (Option Value)} {st : List Value} {n : Nat} {Q : xQ} {μ : xM} (hl : L[1]? = some (some .null)) (h : x_V S 61 1 L (.null :: st) μ n Q) : x_V S 61 0 L st μ n Q := x_aload_nN d61_0 hl h
theorem s61_1 {S : Nat × (Nat → Int32)} {L : List (Option Value)} {st : List Value} {n : Nat} {Q : xQ} {g : Nat → Nat → Int} {a : Nat} (hs : x_sh a = (3, 4)) (hp : x_pt a 0 = none) (ha : a ≠ x_out) (h : x_V S 61 4 L (.int (I (g a 0)) :: st) (x_vm g) n Q) : x_V S 61 1 L (.ref a :: st) (x_vm g) n Q := v_get (i := 0) cf3 d61_1 (by decide) w66 hs hp ha h
theorem s61_112 {S : Nat × (Nat → Int32)} {L : List (Option Value)} {st : List Value} {n : Nat} {Q : xQ} {μ : xM} {a : Nat} (hl : L[0]? = some (some (.ref a))) (h : x_V S 61 113 L (.ref a :: st) μ n Q) : x_V S 61 112 L (st) μ n Q := x_aload_n d61_112 hl h
theorem s61_112N {S : Nat × (Nat → Int32)} {L : List (Option Value)} {st : List Value} {n : Nat} {Q : xQ} {μ : xM} (hl : L[0]? = some (some .null)) (h : x_V S 61 113 L (.null :: st) μ n Q) : x_V S 61 112 L st μ n Q := x_aload_nN d61_112 hl h
theorem s61_113 {S : Nat × (Nat → Int32)} {L : List (Option Value)} {st : List Value} {n : Nat} {Q : xQ} {μ : xM}  (h : x_V S 61 115 L (.int (I 48) :: st) μ n Q) : x_V S 61 113 L (st) μ n Q := x_bipush (by decide +kernel) d61_113 h
theorem s61_115 {S : Nat × (Nat → Int32)} {L : List (Option Value)} {st : List Value} {n : Nat} {Q : xQ} {μ : xM} {a : Nat} (hl : L[1]? = some (some (.ref a))) (h : x_V S 61 116 L (.ref a :: st) μ n Q) : x_V S 61 115 L (st) μ n Q := x_aload_n d61_115 hl h
theorem s61_115N {S : Nat × (Nat → Int32)} {L : List (Option Value)} {st : List Value} {n : Nat} {Q : xQ} {μ : xM} (hl : L[1]? = some (some .null)) (h : x_V S 61 116 L (.null :: st) μ n Q) : x_V S 61 115 L st μ n Q := x_aload_nN d61_115 hl h
theorem s61_116 {S : Nat × (Nat → Int32)} {L : List (Option Value)} {st : List Value} {n : Nat} {Q : xQ} {g : Nat → Nat → Int} {a : Nat} {v : Value} (hs : x_sh a = (3, 4)) (hp : x_pt a 3 = some v) (h : x_V S 61 119 L (v :: st) (x_vm g) n Q) : x_V S 61 116 L (.ref a :: st) (x_vm g) n Q := v_getp (i := 3) cf3 d61_116 (by decide) w74 hs hp h
theorem s61_119 {S : Nat × (Nat → Int32)} {L : List (Option Value)} {st : List Value} {n : Nat} {Q : xQ} {μ : xM}  (h : x_V S 61 120 L (.int (I 0) :: st) μ n Q) : x_V S 61 119 L (st) μ n Q := x_iconst (by decide +kernel) d61_119 h
theorem s61_121 {S : Nat × (Nat → Int32)} {L : List (Option Value)} {st : List Value} {n : Nat} {Q : xQ} {μ : xM}  (h : x_V S 61 122 L (.int (I 0) :: st) μ n Q) : x_V S 61 121 L (st) μ n Q := x_iconst (by decide +kernel) d61_121 h
theorem s61_122 {S : Nat × (Nat → Int32)} {L : List (Option Value)} {st : List Value} {n : Nat} {Q : xQ} {μ : xM} {x0 : Int32} {x1 : Int32} {x2 : Int32} {a : Nat} (hs : x_sh a = (4, 12)) (hst : st.length ≤ 4) (h : x_V S 65 0 [some (.ref a), some (.int x0), some (.int x1), some (.int x2)] [] μ n (x_bk S 61 122 L st Q)) : x_V S 61 122 L (.int x2 :: .int x1 :: .int x0 :: .ref a :: st) μ n Q := x_callV (k' := 65) (as := [.int x0, .int x1, .int x2]) (na := 3) d61_122 ⟨w252, by decide +kernel, by decide, by decide, by decide, by decide, by decide⟩ cf4 w249 w251 wp1 (by decide +kernel) rfl hs (fun v hv => by
    simp only [List.mem_cons, List.not_mem_nil, or_false] at hv
    rcases hv with rfl | rfl | rfl <;> first | rfl | assumption) hst h
theorem s61_125 {S : Nat × (Nat → Int32)} {L : List (Option Value)} {st : List Value} {n : Nat} {Q : xQ} {μ : xM}  (h : x_V S 61 199 L (st) μ n Q) : x_V S 61 125 L (st) μ n Q := x_goto (tgt := 199) (by decide) d61_125 h
theorem s61_128 {S : Nat × (Nat → Int32)} {L : List (Option Value)} {st : List Value} {n : Nat} {Q : xQ} {μ : xM} {a : Nat} (hl : L[0]? = some (some (.ref a))) (h : x_V S 61 129 L (.ref a :: st) μ n Q) : x_V S 61 128 L (st) μ n Q := x_aload_n d61_128 hl h
theorem s61_128N {S : Nat × (Nat → Int32)} {L : List (Option Value)} {st : List Value} {n : Nat} {Q : xQ} {μ : xM} (hl : L[0]? = some (some .null)) (h : x_V S 61 129 L (.null :: st) μ n Q) : x_V S 61 128 L st μ n Q := x_aload_nN d61_128 hl h
theorem s61_129 {S : Nat × (Nat → Int32)} {L : List (Option Value)} {st : List Value} {n : Nat} {Q : xQ} {μ : xM} {a : Nat} (hl : L[1]? = some (some (.ref a))) (h : x_V S 61 130 L (.ref a :: st) μ n Q) : x_V S 61 129 L (st) μ n Q := x_aload_n d61_129 hl h
theorem s61_129N {S : Nat × (Nat → Int32)} {L : List (Option Value)} {st : List Value} {n : Nat} {Q : xQ} {μ : xM} (hl : L[1]? = some (some .null)) (h : x_V S 61 130 L (.null :: st) μ n Q) : x_V S 61 129 L st μ n Q := x_aload_nN d61_129 hl h
theorem s61_130 {S : Nat × (Nat → Int32)} {L : List (Option Value)} {st : List Value} {n : Nat} {Q : xQ} {g : Nat → Nat → Int} {a : Nat} {v : Value} (hs : x_sh a = (3, 4)) (hp : x_pt a 3 = some v) (h : x_V S 61 133 L (v :: st) (x_vm g) n Q) : x_V S 61 130 L (.ref a :: st) (x_vm g) n Q := v_getp (i := 3) cf3 d61_130 (by decide) w74 hs hp h
theorem s61_133 {S : Nat × (Nat → Int32)} {L : List (Option Value)} {st : List Value} {n : Nat} {Q : xQ} {μ : xM}  (h : x_V S 61 134 L (.int (I 0) :: st) μ n Q) : x_V S 61 133 L (st) μ n Q := x_iconst (by decide +kernel) d61_133 h
theorem s61_135 {S : Nat × (Nat → Int32)} {L : List (Option Value)} {st : List Value} {n : Nat} {Q : xQ} {μ : xM} {a : Nat} (hl : L[1]? = some (some (.ref a))) (h : x_V S 61 136 L (.ref a :: st) μ n Q) : x_V S 61 135 L (st) μ n Q := x_aload_n d61_135 hl h
theorem s61_135N {S : Nat × (Nat → Int32)} {L : List (Option Value)} {st : List Value} {n : Nat} {Q : xQ} {μ : xM} (hl : L[1]? = some (some .null)) (h : x_V S 61 136 L (.null :: st) μ n Q) : x_V S 61 135 L st μ n Q := x_aload_nN d61_135 hl h
theorem s61_136 {S : Nat × (Nat → Int32)} {L : List (Option Value)} {st : List Value} {n : Nat} {Q : xQ} {g : Nat → Nat → Int} {a : Nat} {v : Value} (hs : x_sh a = (3, 4)) (hp : x_pt a 3 = some v) (h : x_V S 61 139 L (v :: st) (x_vm g) n Q) : x_V S 61 136 L (.ref a :: st) (x_vm g) n Q := v_getp (i := 3) cf3 d61_136 (by decide) w74 hs hp h
theorem s61_139 {S : Nat × (Nat → Int32)} {L : List (Option Value)} {st : List Value} {n : Nat} {Q : xQ} {μ : xM}  (h : x_V S 61 140 L (.int (I 1) :: st) μ n Q) : x_V S 61 139 L (st) μ n Q := x_iconst (by decide +kernel) d61_139 h
theorem s61_141 {S : Nat × (Nat → Int32)} {L : List (Option Value)} {st : List Value} {n : Nat} {Q : xQ} {μ : xM} {x0 : Int32} {x1 : Int32} {a : Nat} (hs : x_sh a = (4, 12)) (hst : st.length ≤ 4) (h : x_V S 66 0 [some (.ref a), some (.int x0), some (.int x1), none, none, none, none] [] μ n (x_bk S 61 141 L st Q)) : x_V S 61 141 L (.int x1 :: .int x0 :: .ref a :: st) μ n Q := x_callV (k' := 66) (as := [.int x0, .int x1]) (na := 2) d61_141 ⟨w554, by decide +kernel, by decide, by decide, by decide, by decide, by decide⟩ cf4 w551 w553 wp17 (by decide +kernel) rfl hs (fun v hv => by
    simp only [List.mem_cons, List.not_mem_nil, or_false] at hv
    rcases hv with rfl | rfl <;> first | rfl | assumption) hst h
theorem s61_144 {S : Nat × (Nat → Int32)} {L : List (Option Value)} {st : List Value} {n : Nat} {Q : xQ} {μ : xM}  (h : x_V S 61 199 L (st) μ n Q) : x_V S 61 144 L (st) μ n Q := x_goto (tgt := 199) (by decide) d61_144 h
theorem s61_147 {S : Nat × (Nat → Int32)} {L : List (Option Value)} {st : List Value} {n : Nat} {Q : xQ} {μ : xM} {a : Nat} (hl : L[0]? = some (some (.ref a))) (h : x_V S 61 148 L (.ref a :: st) μ n Q) : x_V S 61 147 L (st) μ n Q := x_aload_n d61_147 hl h
theorem s61_147N {S : Nat × (Nat → Int32)} {L : List (Option Value)} {st : List Value} {n : Nat} {Q : xQ} {μ : xM} (hl : L[0]? = some (some .null)) (h : x_V S 61 148 L (.null :: st) μ n Q) : x_V S 61 147 L st μ n Q := x_aload_nN d61_147 hl h
theorem s61_148 {S : Nat × (Nat → Int32)} {L : List (Option Value)} {st : List Value} {n : Nat} {Q : xQ} {μ : xM} {a : Nat} (hl : L[1]? = some (some (.ref a))) (h : x_V S 61 149 L (.ref a :: st) μ n Q) : x_V S 61 148 L (st) μ n Q := x_aload_n d61_148 hl h
theorem s61_148N {S : Nat × (Nat → Int32)} {L : List (Option Value)} {st : List Value} {n : Nat} {Q : xQ} {μ : xM} (hl : L[1]? = some (some .null)) (h : x_V S 61 149 L (.null :: st) μ n Q) : x_V S 61 148 L st μ n Q := x_aload_nN d61_148 hl h
theorem s61_149 {S : Nat × (Nat → Int32)} {L : List (Option Value)} {st : List Value} {n : Nat} {Q : xQ} {g : Nat → Nat → Int} {a : Nat} {v : Value} (hs : x_sh a = (3, 4)) (hp : x_pt a 3 = some v) (h : x_V S 61 152 L (v :: st) (x_vm g) n Q) : x_V S 61 149 L (.ref a :: st) (x_vm g) n Q := v_getp (i := 3) cf3 d61_149 (by decide) w74 hs hp h
theorem s61_152 {S : Nat × (Nat → Int32)} {L : List (Option Value)} {st : List Value} {n : Nat} {Q : xQ} {μ : xM}  (h : x_V S 61 153 L (.int (I 0) :: st) μ n Q) : x_V S 61 152 L (st) μ n Q := x_iconst (by decide +kernel) d61_152 h
theorem s61_154 {S : Nat × (Nat → Int32)} {L : List (Option Value)} {st : List Value} {n : Nat} {Q : xQ} {μ : xM} {x0 : Int32} {a : Nat} (hs : x_sh a = (4, 12)) (hst : st.length ≤ 4) (h : x_V S 62 0 [some (.ref a), some (.int x0)] [] μ n (x_bk S 61 154 L st Q)) : x_V S 61 154 L (.int x0 :: .ref a :: st) μ n Q := x_callV (k' := 62) (as := [.int x0]) (na := 1) d61_154 ⟨w542, by decide +kernel, by decide, by decide, by decide, by decide, by decide⟩ cf4 w539 w541 wp14 (by decide +kernel) rfl hs (fun v hv => by
    simp only [List.mem_cons, List.not_mem_nil, or_false] at hv
    rcases hv with rfl <;> first | rfl | assumption) hst h
theorem s61_157 {S : Nat × (Nat → Int32)} {L : List (Option Value)} {st : List Value} {n : Nat} {Q : xQ} {μ : xM} {v : Value} (hc : v.category = 1) (h : x_V S 61 158 L (st) μ n Q) : x_V S 61 157 L (v :: st) μ n Q := x_pop hc d61_157 h
theorem s61_158 {S : Nat × (Nat → Int32)} {L : List (Option Value)} {st : List Value} {n : Nat} {Q : xQ} {μ : xM}  (h : x_V S 61 199 L (st) μ n Q) : x_V S 61 158 L (st) μ n Q := x_goto (tgt := 199) (by decide) d61_158 h
theorem s61_161 {S : Nat × (Nat → Int32)} {L : List (Option Value)} {st : List Value} {n : Nat} {Q : xQ} {μ : xM} {a : Nat} (hl : L[0]? = some (some (.ref a))) (h : x_V S 61 162 L (.ref a :: st) μ n Q) : x_V S 61 161 L (st) μ n Q := x_aload_n d61_161 hl h
theorem s61_161N {S : Nat × (Nat → Int32)} {L : List (Option Value)} {st : List Value} {n : Nat} {Q : xQ} {μ : xM} (hl : L[0]? = some (some .null)) (h : x_V S 61 162 L (.null :: st) μ n Q) : x_V S 61 161 L st μ n Q := x_aload_nN d61_161 hl h
theorem s61_162 {S : Nat × (Nat → Int32)} {L : List (Option Value)} {st : List Value} {n : Nat} {Q : xQ} {μ : xM}  {a : Nat} (hs : x_sh a = (4, 12)) (hst : st.length ≤ 4) (h : x_V S 64 0 [some (.ref a)] [] μ n (x_bk S 61 162 L st Q)) : x_V S 61 162 L (.ref a :: st) μ n Q := x_callV (k' := 64) (as := []) (na := 0) d61_162 ⟨w248, by decide +kernel, by decide, by decide, by decide, by decide, by decide⟩ cf4 w245 w247 wp0 (by decide +kernel) rfl hs (fun v hv => by
    cases hv) hst h
theorem s61_165 {S : Nat × (Nat → Int32)} {L : List (Option Value)} {st : List Value} {n : Nat} {Q : xQ} {μ : xM}  (h : x_V S 61 199 L (st) μ n Q) : x_V S 61 165 L (st) μ n Q := x_goto (tgt := 199) (by decide) d61_165 h
theorem s61_168 {S : Nat × (Nat → Int32)} {L : List (Option Value)} {st : List Value} {n : Nat} {Q : xQ} {μ : xM} {a : Nat} (hl : L[0]? = some (some (.ref a))) (h : x_V S 61 169 L (.ref a :: st) μ n Q) : x_V S 61 168 L (st) μ n Q := x_aload_n d61_168 hl h
theorem s61_168N {S : Nat × (Nat → Int32)} {L : List (Option Value)} {st : List Value} {n : Nat} {Q : xQ} {μ : xM} (hl : L[0]? = some (some .null)) (h : x_V S 61 169 L (.null :: st) μ n Q) : x_V S 61 168 L st μ n Q := x_aload_nN d61_168 hl h
theorem s61_169 {S : Nat × (Nat → Int32)} {L : List (Option Value)} {st : List Value} {n : Nat} {Q : xQ} {μ : xM} {v : Value} (hc : v.category = 1) (h : x_V S 61 170 L (v :: v :: st) μ n Q) : x_V S 61 169 L (v :: st) μ n Q := x_dup hc d61_169 h
theorem s61_170 {S : Nat × (Nat → Int32)} {L : List (Option Value)} {st : List Value} {n : Nat} {Q : xQ} {g : Nat → Nat → Int} {a : Nat} (hs : x_sh a = (4, 12)) (hp : x_pt a 8 = none) (ha : a ≠ x_out) (h : x_V S 61 173 L (.int (I (g a 8)) :: st) (x_vm g) n Q) : x_V S 61 170 L (.ref a :: st) (x_vm g) n Q := v_get (i := 8) cf4 d61_170 (by decide) w193 hs hp ha h
theorem s61_173 {S : Nat × (Nat → Int32)} {L : List (Option Value)} {st : List Value} {n : Nat} {Q : xQ} {μ : xM}  (h : x_V S 61 174 L (.int (I 1) :: st) μ n Q) : x_V S 61 173 L (st) μ n Q := x_iconst (by decide +kernel) d61_173 h
theorem s61_174 {S : Nat × (Nat → Int32)} {L : List (Option Value)} {st : List Value} {n : Nat} {Q : xQ} {μ : xM} {x y : Int} (h : x_V S 61 175 L (.int (I (x + y)) :: st) μ n Q) : x_V S 61 174 L (.int (I y) :: .int (I x) :: st) μ n Q := v_iadd d61_174 h
theorem s61_175 {S : Nat × (Nat → Int32)} {L : List (Option Value)} {st : List Value} {n : Nat} {Q : xQ} {g : Nat → Nat → Int} {a : Nat} {x : Int} (hs : x_sh a = (4, 12)) (hp : x_pt a 8 = none) (ha : a ≠ x_out) (h : x_V S 61 178 L (st) (x_vm (x_uf g a 8 x)) n Q) : x_V S 61 175 L (.int (I x) :: .ref a :: st) (x_vm g) n Q := v_put (i := 8) cf4 d61_175 (by decide) rfl w193 hs rfl hp ha h
theorem s61_178 {S : Nat × (Nat → Int32)} {L : List (Option Value)} {st : List Value} {n : Nat} {Q : xQ} {μ : xM} {a : Nat} (hl : L[0]? = some (some (.ref a))) (h : x_V S 61 179 L (.ref a :: st) μ n Q) : x_V S 61 178 L (st) μ n Q := x_aload_n d61_178 hl h
theorem s61_178N {S : Nat × (Nat → Int32)} {L : List (Option Value)} {st : List Value} {n : Nat} {Q : xQ} {μ : xM} (hl : L[0]? = some (some .null)) (h : x_V S 61 179 L (.null :: st) μ n Q) : x_V S 61 178 L st μ n Q := x_aload_nN d61_178 hl h
theorem s61_179 {S : Nat × (Nat → Int32)} {L : List (Option Value)} {st : List Value} {n : Nat} {Q : xQ} {μ : xM} {a : Nat} (hl : L[1]? = some (some (.ref a))) (h : x_V S 61 180 L (.ref a :: st) μ n Q) : x_V S 61 179 L (st) μ n Q := x_aload_n d61_179 hl h
theorem s61_179N {S : Nat × (Nat → Int32)} {L : List (Option Value)} {st : List Value} {n : Nat} {Q : xQ} {μ : xM} (hl : L[1]? = some (some .null)) (h : x_V S 61 180 L (.null :: st) μ n Q) : x_V S 61 179 L st μ n Q := x_aload_nN d61_179 hl h
theorem s61_180 {S : Nat × (Nat → Int32)} {L : List (Option Value)} {st : List Value} {n : Nat} {Q : xQ} {g : Nat → Nat → Int} {a : Nat} {v : Value} (hs : x_sh a = (3, 4)) (hp : x_pt a 3 = some v) (h : x_V S 61 183 L (v :: st) (x_vm g) n Q) : x_V S 61 180 L (.ref a :: st) (x_vm g) n Q := v_getp (i := 3) cf3 d61_180 (by decide) w74 hs hp h
theorem s61_183 {S : Nat × (Nat → Int32)} {L : List (Option Value)} {st : List Value} {n : Nat} {Q : xQ} {μ : xM}  (h : x_V S 61 184 L (.int (I 0) :: st) μ n Q) : x_V S 61 183 L (st) μ n Q := x_iconst (by decide +kernel) d61_183 h
theorem s61_185 {S : Nat × (Nat → Int32)} {L : List (Option Value)} {st : List Value} {n : Nat} {Q : xQ} {μ : xM} {a : Nat} (hl : L[0]? = some (some (.ref a))) (h : x_V S 61 186 L (.ref a :: st) μ n Q) : x_V S 61 185 L (st) μ n Q := x_aload_n d61_185 hl h
theorem s61_185N {S : Nat × (Nat → Int32)} {L : List (Option Value)} {st : List Value} {n : Nat} {Q : xQ} {μ : xM} (hl : L[0]? = some (some .null)) (h : x_V S 61 186 L (.null :: st) μ n Q) : x_V S 61 185 L st μ n Q := x_aload_nN d61_185 hl h
theorem s61_186 {S : Nat × (Nat → Int32)} {L : List (Option Value)} {st : List Value} {n : Nat} {Q : xQ} {g : Nat → Nat → Int} {a : Nat} {v : Value} (hs : x_sh a = (4, 12)) (hp : x_pt a 1 = some v) (h : x_V S 61 189 L (v :: st) (x_vm g) n Q) : x_V S 61 186 L (.ref a :: st) (x_vm g) n Q := v_getp (i := 1) cf4 d61_186 (by decide) w180 hs hp h
theorem s61_189 {S : Nat × (Nat → Int32)} {L : List (Option Value)} {st : List Value} {n : Nat} {Q : xQ} {μ : xM} {a : Nat} (hl : L[1]? = some (some (.ref a))) (h : x_V S 61 190 L (.ref a :: st) μ n Q) : x_V S 61 189 L (st) μ n Q := x_aload_n d61_189 hl h
theorem s61_189N {S : Nat × (Nat → Int32)} {L : List (Option Value)} {st : List Value} {n : Nat} {Q : xQ} {μ : xM} (hl : L[1]? = some (some .null)) (h : x_V S 61 190 L (.null :: st) μ n Q) : x_V S 61 189 L st μ n Q := x_aload_nN d61_189 hl h
theorem s61_190 {S : Nat × (Nat → Int32)} {L : List (Option Value)} {st : List Value} {n : Nat} {Q : xQ} {μ : xM} {v0 : Value} (hc0 : v0.category = 1) {a : Nat} (hs : x_sh a = (6, 4)) (hst : st.length ≤ 4) (h : x_V S 49 0 [some (.ref a), some (v0), none, none] [] μ n (x_bk S 61 190 L st Q)) : x_V S 61 190 L (v0 :: .ref a :: st) μ n Q := x_callV (k' := 49) (as := [v0]) (na := 1) d61_190 ⟨w578, by decide +kernel, by decide, by decide, by decide, by decide, by decide⟩ cf6 w575 w576 w577 (by decide +kernel) rfl hs (fun v hv => by
    simp only [List.mem_cons, List.not_mem_nil, or_false] at hv
    rcases hv with rfl <;> first | rfl | assumption) hst h
theorem s61_193 {S : Nat × (Nat → Int32)} {L : List (Option Value)} {st : List Value} {n : Nat} {Q : xQ} {μ : xM} {x0 : Int32} {v1 : Value} (hc1 : v1.category = 1) {a : Nat} (hs : x_sh a = (4, 12)) (hst : st.length ≤ 4) (h : x_V S 58 0 [some (.ref a), some (.int x0), some (v1), none, none, none] [] μ n (x_bk S 61 193 L st Q)) : x_V S 61 193 L (v1 :: .int x0 :: .ref a :: st) μ n Q := x_callV (k' := 58) (as := [.int x0, v1]) (na := 2) d61_193 ⟨w610, by decide +kernel, by decide, by decide, by decide, by decide, by decide⟩ cf4 w607 w608 w609 (by decide +kernel) rfl hs (fun v hv => by
    simp only [List.mem_cons, List.not_mem_nil, or_false] at hv
    rcases hv with rfl | rfl <;> first | rfl | assumption) hst h
theorem s61_196 {S : Nat × (Nat → Int32)} {L : List (Option Value)} {st : List Value} {n : Nat} {Q : xQ} {μ : xM}  (h : x_V S 61 199 L (st) μ n Q) : x_V S 61 196 L (st) μ n Q := x_goto (tgt := 199) (by decide) d61_196 h
theorem s61_199 {S : Nat × (Nat → Int32)} {L : List (Option Value)} {st : List Value} {n : Nat} {Q : xQ} {μ : xM}  (h : Q (.inl none) μ n) : x_V S 61 199 L ([]) μ n Q := x_return d61_199 rfl h
theorem mC_62 : mC 62 = prog_9_method_9_code := rfl
theorem d62_0 : decode (mC 62) 0 = .ok (.iload_n 1, 1) := by rw [mC_62]; decide +kernel
theorem d62_1 : decode (mC 62) 1 = .ok (.aload_n 0, 1) := by rw [mC_62]; decide +kernel
theorem d62_2 : decode (mC 62) 2 = .ok (.getfield 32, 3) := by rw [mC_62]; decide +kernel
theorem d62_5 : decode (mC 62) 5 = .ok (.if_icmp .gt 5, 3) := by rw [mC_62]; decide +kernel
theorem d62_8 : decode (mC 62) 8 = .ok (.iconst 0, 1) := by rw [mC_62]; decide +kernel
theorem d62_9 : decode (mC 62) 9 = .ok (.ireturn, 1) := by rw [mC_62]; decide +kernel
theorem d62_10 : decode (mC 62) 10 = .ok (.aload_n 0, 1) := by rw [mC_62]; decide +kernel
theorem d62_11 : decode (mC 62) 11 = .ok (.iload_n 1, 1) := by rw [mC_62]; decide +kernel
theorem d62_12 : decode (mC 62) 12 = .ok (.putfield 32, 3) := by rw [mC_62]; decide +kernel
theorem d62_15 : decode (mC 62) 15 = .ok (.aload_n 0, 1) := by rw [mC_62]; decide +kernel
theorem d62_16 : decode (mC 62) 16 = .ok (.getfield 32, 3) := by rw [mC_62]; decide +kernel
theorem d62_19 : decode (mC 62) 19 = .ok (.aload_n 0, 1) := by rw [mC_62]; decide +kernel
theorem d62_20 : decode (mC 62) 20 = .ok (.getfield 91, 3) := by rw [mC_62]; decide +kernel
theorem d62_23 : decode (mC 62) 23 = .ok (.if_icmp .le 8, 3) := by rw [mC_62]; decide +kernel
theorem d62_26 : decode (mC 62) 26 = .ok (.aload_n 0, 1) := by rw [mC_62]; decide +kernel
theorem d62_27 : decode (mC 62) 27 = .ok (.iconst 0, 1) := by rw [mC_62]; decide +kernel
theorem d62_28 : decode (mC 62) 28 = .ok (.putfield 91, 3) := by rw [mC_62]; decide +kernel
theorem d62_31 : decode (mC 62) 31 = .ok (.iconst 1, 1) := by rw [mC_62]; decide +kernel
theorem d62_32 : decode (mC 62) 32 = .ok (.ireturn, 1) := by rw [mC_62]; decide +kernel
theorem s62_0 {S : Nat × (Nat → Int32)} {L : List (Option Value)} {st : List Value} {n : Nat} {Q : xQ} {μ : xM} {x : Int32} (hl : L[1]? = some (some (.int x))) (h : x_V S 62 1 L (.int x :: st) μ n Q) : x_V S 62 0 L (st) μ n Q := x_iload_n d62_0 hl h
theorem s62_1 {S : Nat × (Nat → Int32)} {L : List (Option Value)} {st : List Value} {n : Nat} {Q : xQ} {μ : xM} {a : Nat} (hl : L[0]? = some (some (.ref a))) (h : x_V S 62 2 L (.ref a :: st) μ n Q) : x_V S 62 1 L (st) μ n Q := x_aload_n d62_1 hl h
theorem s62_1N {S : Nat × (Nat → Int32)} {L : List (Option Value)} {st : List Value} {n : Nat} {Q : xQ} {μ : xM} (hl : L[0]? = some (some .null)) (h : x_V S 62 2 L (.null :: st) μ n Q) : x_V S 62 1 L st μ n Q := x_aload_nN d62_1 hl h
theorem s62_2 {S : Nat × (Nat → Int32)} {L : List (Option Value)} {st : List Value} {n : Nat} {Q : xQ} {g : Nat → Nat → Int} {a : Nat} (hs : x_sh a = (4, 12)) (hp : x_pt a 3 = none) (ha : a ≠ x_out) (h : x_V S 62 5 L (.int (I (g a 3)) :: st) (x_vm g) n Q) : x_V S 62 2 L (.ref a :: st) (x_vm g) n Q := v_get (i := 3) cf4 d62_2 (by decide) w183 hs hp ha h
theorem s62_5 {S : Nat × (Nat → Int32)} {L : List (Option Value)} {st : List Value} {n : Nat} {Q : xQ} {μ : xM} {x y : Int} (hx : ib x) (hy : ib y) (kt : y < x → x_V S 62 10 L (st) μ n Q) (kf : x ≤ y → x_V S 62 8 L (st) μ n Q) : x_V S 62 5 L (.int (I y) :: .int (I x) :: st) μ n Q := v_icmp_gt d62_5 (by decide) hx hy kt kf
theorem s62_8 {S : Nat × (Nat → Int32)} {L : List (Option Value)} {st : List Value} {n : Nat} {Q : xQ} {μ : xM}  (h : x_V S 62 9 L (.int (I 0) :: st) μ n Q) : x_V S 62 8 L (st) μ n Q := x_iconst (by decide +kernel) d62_8 h
theorem s62_9 {S : Nat × (Nat → Int32)} {L : List (Option Value)} {st : List Value} {n : Nat} {Q : xQ} {μ : xM} {v : Int} (hv : v = 0 ∨ v = 1) (h : Q (.inl (some (.int (I v)))) μ n) : x_V S 62 9 L (.int (I v) :: []) μ n Q := v_zreturn d62_9 rfl hv h
theorem s62_10 {S : Nat × (Nat → Int32)} {L : List (Option Value)} {st : List Value} {n : Nat} {Q : xQ} {μ : xM} {a : Nat} (hl : L[0]? = some (some (.ref a))) (h : x_V S 62 11 L (.ref a :: st) μ n Q) : x_V S 62 10 L (st) μ n Q := x_aload_n d62_10 hl h
theorem s62_10N {S : Nat × (Nat → Int32)} {L : List (Option Value)} {st : List Value} {n : Nat} {Q : xQ} {μ : xM} (hl : L[0]? = some (some .null)) (h : x_V S 62 11 L (.null :: st) μ n Q) : x_V S 62 10 L st μ n Q := x_aload_nN d62_10 hl h
theorem s62_11 {S : Nat × (Nat → Int32)} {L : List (Option Value)} {st : List Value} {n : Nat} {Q : xQ} {μ : xM} {x : Int32} (hl : L[1]? = some (some (.int x))) (h : x_V S 62 12 L (.int x :: st) μ n Q) : x_V S 62 11 L (st) μ n Q := x_iload_n d62_11 hl h
theorem s62_12 {S : Nat × (Nat → Int32)} {L : List (Option Value)} {st : List Value} {n : Nat} {Q : xQ} {g : Nat → Nat → Int} {a : Nat} {x : Int} (hs : x_sh a = (4, 12)) (hp : x_pt a 3 = none) (ha : a ≠ x_out) (h : x_V S 62 15 L (st) (x_vm (x_uf g a 3 x)) n Q) : x_V S 62 12 L (.int (I x) :: .ref a :: st) (x_vm g) n Q := v_put (i := 3) cf4 d62_12 (by decide) rfl w183 hs rfl hp ha h
theorem s62_15 {S : Nat × (Nat → Int32)} {L : List (Option Value)} {st : List Value} {n : Nat} {Q : xQ} {μ : xM} {a : Nat} (hl : L[0]? = some (some (.ref a))) (h : x_V S 62 16 L (.ref a :: st) μ n Q) : x_V S 62 15 L (st) μ n Q := x_aload_n d62_15 hl h
theorem s62_15N {S : Nat × (Nat → Int32)} {L : List (Option Value)} {st : List Value} {n : Nat} {Q : xQ} {μ : xM} (hl : L[0]? = some (some .null)) (h : x_V S 62 16 L (.null :: st) μ n Q) : x_V S 62 15 L st μ n Q := x_aload_nN d62_15 hl h
theorem s62_16 {S : Nat × (Nat → Int32)} {L : List (Option Value)} {st : List Value} {n : Nat} {Q : xQ} {g : Nat → Nat → Int} {a : Nat} (hs : x_sh a = (4, 12)) (hp : x_pt a 3 = none) (ha : a ≠ x_out) (h : x_V S 62 19 L (.int (I (g a 3)) :: st) (x_vm g) n Q) : x_V S 62 16 L (.ref a :: st) (x_vm g) n Q := v_get (i := 3) cf4 d62_16 (by decide) w183 hs hp ha h
theorem s62_19 {S : Nat × (Nat → Int32)} {L : List (Option Value)} {st : List Value} {n : Nat} {Q : xQ} {μ : xM} {a : Nat} (hl : L[0]? = some (some (.ref a))) (h : x_V S 62 20 L (.ref a :: st) μ n Q) : x_V S 62 19 L (st) μ n Q := x_aload_n d62_19 hl h
theorem s62_19N {S : Nat × (Nat → Int32)} {L : List (Option Value)} {st : List Value} {n : Nat} {Q : xQ} {μ : xM} (hl : L[0]? = some (some .null)) (h : x_V S 62 20 L (.null :: st) μ n Q) : x_V S 62 19 L st μ n Q := x_aload_nN d62_19 hl h
theorem s62_20 {S : Nat × (Nat → Int32)} {L : List (Option Value)} {st : List Value} {n : Nat} {Q : xQ} {g : Nat → Nat → Int} {a : Nat} (hs : x_sh a = (4, 12)) (hp : x_pt a 5 = none) (ha : a ≠ x_out) (h : x_V S 62 23 L (.int (I (g a 5)) :: st) (x_vm g) n Q) : x_V S 62 20 L (.ref a :: st) (x_vm g) n Q := v_get (i := 5) cf4 d62_20 (by decide) w187 hs hp ha h
theorem s62_23 {S : Nat × (Nat → Int32)} {L : List (Option Value)} {st : List Value} {n : Nat} {Q : xQ} {μ : xM} {x y : Int} (hx : ib x) (hy : ib y) (kt : x ≤ y → x_V S 62 31 L (st) μ n Q) (kf : y < x → x_V S 62 26 L (st) μ n Q) : x_V S 62 23 L (.int (I y) :: .int (I x) :: st) μ n Q := v_icmp_le d62_23 (by decide) hx hy kt kf
theorem s62_26 {S : Nat × (Nat → Int32)} {L : List (Option Value)} {st : List Value} {n : Nat} {Q : xQ} {μ : xM} {a : Nat} (hl : L[0]? = some (some (.ref a))) (h : x_V S 62 27 L (.ref a :: st) μ n Q) : x_V S 62 26 L (st) μ n Q := x_aload_n d62_26 hl h
theorem s62_26N {S : Nat × (Nat → Int32)} {L : List (Option Value)} {st : List Value} {n : Nat} {Q : xQ} {μ : xM} (hl : L[0]? = some (some .null)) (h : x_V S 62 27 L (.null :: st) μ n Q) : x_V S 62 26 L st μ n Q := x_aload_nN d62_26 hl h
theorem s62_27 {S : Nat × (Nat → Int32)} {L : List (Option Value)} {st : List Value} {n : Nat} {Q : xQ} {μ : xM}  (h : x_V S 62 28 L (.int (I 0) :: st) μ n Q) : x_V S 62 27 L (st) μ n Q := x_iconst (by decide +kernel) d62_27 h
theorem s62_28 {S : Nat × (Nat → Int32)} {L : List (Option Value)} {st : List Value} {n : Nat} {Q : xQ} {g : Nat → Nat → Int} {a : Nat} {x : Int} (hs : x_sh a = (4, 12)) (hp : x_pt a 5 = none) (ha : a ≠ x_out) (h : x_V S 62 31 L (st) (x_vm (x_uf g a 5 x)) n Q) : x_V S 62 28 L (.int (I x) :: .ref a :: st) (x_vm g) n Q := v_put (i := 5) cf4 d62_28 (by decide) rfl w187 hs rfl hp ha h
theorem s62_31 {S : Nat × (Nat → Int32)} {L : List (Option Value)} {st : List Value} {n : Nat} {Q : xQ} {μ : xM}  (h : x_V S 62 32 L (.int (I 1) :: st) μ n Q) : x_V S 62 31 L (st) μ n Q := x_iconst (by decide +kernel) d62_31 h
theorem s62_32 {S : Nat × (Nat → Int32)} {L : List (Option Value)} {st : List Value} {n : Nat} {Q : xQ} {μ : xM} {v : Int} (hv : v = 0 ∨ v = 1) (h : Q (.inl (some (.int (I v)))) μ n) : x_V S 62 32 L (.int (I v) :: []) μ n Q := v_zreturn d62_32 rfl hv h
theorem mC_63 : mC 63 = prog_9_method_10_code := rfl
theorem d63_0 : decode (mC 63) 0 = .ok (.aload_n 0, 1) := by rw [mC_63]; decide +kernel
theorem d63_1 : decode (mC 63) 1 = .ok (.bipush 50, 2) := by rw [mC_63]; decide +kernel
theorem d63_3 : decode (mC 63) 3 = .ok (.aload_n 0, 1) := by rw [mC_63]; decide +kernel
theorem d63_4 : decode (mC 63) 4 = .ok (.getfield 32, 3) := by rw [mC_63]; decide +kernel
theorem d63_7 : decode (mC 63) 7 = .ok (.iconst 0, 1) := by rw [mC_63]; decide +kernel
theorem d63_8 : decode (mC 63) 8 = .ok (.invokevirtual 76, 3) := by rw [mC_63]; decide +kernel
theorem d63_11 : decode (mC 63) 11 = .ok (.aload_n 0, 1) := by rw [mC_63]; decide +kernel
theorem d63_12 : decode (mC 63) 12 = .ok (.aload_n 0, 1) := by rw [mC_63]; decide +kernel
theorem d63_13 : decode (mC 63) 13 = .ok (.getfield 48, 3) := by rw [mC_63]; decide +kernel
theorem d63_16 : decode (mC 63) 16 = .ok (.putfield 94, 3) := by rw [mC_63]; decide +kernel
theorem d63_19 : decode (mC 63) 19 = .ok (.return_, 1) := by rw [mC_63]; decide +kernel
theorem s63_0 {S : Nat × (Nat → Int32)} {L : List (Option Value)} {st : List Value} {n : Nat} {Q : xQ} {μ : xM} {a : Nat} (hl : L[0]? = some (some (.ref a))) (h : x_V S 63 1 L (.ref a :: st) μ n Q) : x_V S 63 0 L (st) μ n Q := x_aload_n d63_0 hl h
theorem s63_0N {S : Nat × (Nat → Int32)} {L : List (Option Value)} {st : List Value} {n : Nat} {Q : xQ} {μ : xM} (hl : L[0]? = some (some .null)) (h : x_V S 63 1 L (.null :: st) μ n Q) : x_V S 63 0 L st μ n Q := x_aload_nN d63_0 hl h
theorem s63_1 {S : Nat × (Nat → Int32)} {L : List (Option Value)} {st : List Value} {n : Nat} {Q : xQ} {μ : xM}  (h : x_V S 63 3 L (.int (I 50) :: st) μ n Q) : x_V S 63 1 L (st) μ n Q := x_bipush (by decide +kernel) d63_1 h
theorem s63_3 {S : Nat × (Nat → Int32)} {L : List (Option Value)} {st : List Value} {n : Nat} {Q : xQ} {μ : xM} {a : Nat} (hl : L[0]? = some (some (.ref a))) (h : x_V S 63 4 L (.ref a :: st) μ n Q) : x_V S 63 3 L (st) μ n Q := x_aload_n d63_3 hl h
theorem s63_3N {S : Nat × (Nat → Int32)} {L : List (Option Value)} {st : List Value} {n : Nat} {Q : xQ} {μ : xM} (hl : L[0]? = some (some .null)) (h : x_V S 63 4 L (.null :: st) μ n Q) : x_V S 63 3 L st μ n Q := x_aload_nN d63_3 hl h
theorem s63_4 {S : Nat × (Nat → Int32)} {L : List (Option Value)} {st : List Value} {n : Nat} {Q : xQ} {g : Nat → Nat → Int} {a : Nat} (hs : x_sh a = (4, 12)) (hp : x_pt a 3 = none) (ha : a ≠ x_out) (h : x_V S 63 7 L (.int (I (g a 3)) :: st) (x_vm g) n Q) : x_V S 63 4 L (.ref a :: st) (x_vm g) n Q := v_get (i := 3) cf4 d63_4 (by decide) w183 hs hp ha h
theorem s63_7 {S : Nat × (Nat → Int32)} {L : List (Option Value)} {st : List Value} {n : Nat} {Q : xQ} {μ : xM}  (h : x_V S 63 8 L (.int (I 0) :: st) μ n Q) : x_V S 63 7 L (st) μ n Q := x_iconst (by decide +kernel) d63_7 h
theorem s63_8 {S : Nat × (Nat → Int32)} {L : List (Option Value)} {st : List Value} {n : Nat} {Q : xQ} {μ : xM} {x0 : Int32} {x1 : Int32} {x2 : Int32} {a : Nat} (hs : x_sh a = (4, 12)) (hst : st.length ≤ 4) (h : x_V S 65 0 [some (.ref a), some (.int x0), some (.int x1), some (.int x2)] [] μ n (x_bk S 63 8 L st Q)) : x_V S 63 8 L (.int x2 :: .int x1 :: .int x0 :: .ref a :: st) μ n Q := x_callV (k' := 65) (as := [.int x0, .int x1, .int x2]) (na := 3) d63_8 ⟨w252, by decide +kernel, by decide, by decide, by decide, by decide, by decide⟩ cf4 w249 w251 wp1 (by decide +kernel) rfl hs (fun v hv => by
    simp only [List.mem_cons, List.not_mem_nil, or_false] at hv
    rcases hv with rfl | rfl | rfl <;> first | rfl | assumption) hst h
theorem s63_11 {S : Nat × (Nat → Int32)} {L : List (Option Value)} {st : List Value} {n : Nat} {Q : xQ} {μ : xM} {a : Nat} (hl : L[0]? = some (some (.ref a))) (h : x_V S 63 12 L (.ref a :: st) μ n Q) : x_V S 63 11 L (st) μ n Q := x_aload_n d63_11 hl h
theorem s63_11N {S : Nat × (Nat → Int32)} {L : List (Option Value)} {st : List Value} {n : Nat} {Q : xQ} {μ : xM} (hl : L[0]? = some (some .null)) (h : x_V S 63 12 L (.null :: st) μ n Q) : x_V S 63 11 L st μ n Q := x_aload_nN d63_11 hl h
theorem s63_12 {S : Nat × (Nat → Int32)} {L : List (Option Value)} {st : List Value} {n : Nat} {Q : xQ} {μ : xM} {a : Nat} (hl : L[0]? = some (some (.ref a))) (h : x_V S 63 13 L (.ref a :: st) μ n Q) : x_V S 63 12 L (st) μ n Q := x_aload_n d63_12 hl h
theorem s63_12N {S : Nat × (Nat → Int32)} {L : List (Option Value)} {st : List Value} {n : Nat} {Q : xQ} {μ : xM} (hl : L[0]? = some (some .null)) (h : x_V S 63 13 L (.null :: st) μ n Q) : x_V S 63 12 L st μ n Q := x_aload_nN d63_12 hl h
theorem s63_13 {S : Nat × (Nat → Int32)} {L : List (Option Value)} {st : List Value} {n : Nat} {Q : xQ} {g : Nat → Nat → Int} {a : Nat} (hs : x_sh a = (4, 12)) (hp : x_pt a 7 = none) (ha : a ≠ x_out) (h : x_V S 63 16 L (.int (I (g a 7)) :: st) (x_vm g) n Q) : x_V S 63 13 L (.ref a :: st) (x_vm g) n Q := v_get (i := 7) cf4 d63_13 (by decide) w191 hs hp ha h
theorem s63_16 {S : Nat × (Nat → Int32)} {L : List (Option Value)} {st : List Value} {n : Nat} {Q : xQ} {g : Nat → Nat → Int} {a : Nat} {x : Int} (hs : x_sh a = (4, 12)) (hp : x_pt a 11 = none) (ha : a ≠ x_out) (h : x_V S 63 19 L (st) (x_vm (x_uf g a 11 x)) n Q) : x_V S 63 16 L (.int (I x) :: .ref a :: st) (x_vm g) n Q := v_put (i := 11) cf4 d63_16 (by decide) rfl w197 hs rfl hp ha h
theorem s63_19 {S : Nat × (Nat → Int32)} {L : List (Option Value)} {st : List Value} {n : Nat} {Q : xQ} {μ : xM}  (h : Q (.inl none) μ n) : x_V S 63 19 L ([]) μ n Q := x_return d63_19 rfl h
theorem mC_64 : mC 64 = prog_9_method_11_code := rfl
theorem d64_0 : decode (mC 64) 0 = .ok (.aload_n 0, 1) := by rw [mC_64]; decide +kernel
theorem d64_1 : decode (mC 64) 1 = .ok (.bipush 53, 2) := by rw [mC_64]; decide +kernel
theorem d64_3 : decode (mC 64) 3 = .ok (.iconst 0, 1) := by rw [mC_64]; decide +kernel
theorem d64_4 : decode (mC 64) 4 = .ok (.iconst 0, 1) := by rw [mC_64]; decide +kernel
theorem d64_5 : decode (mC 64) 5 = .ok (.invokevirtual 76, 3) := by rw [mC_64]; decide +kernel
theorem d64_8 : decode (mC 64) 8 = .ok (.aload_n 0, 1) := by rw [mC_64]; decide +kernel
theorem d64_9 : decode (mC 64) 9 = .ok (.invokevirtual 148, 3) := by rw [mC_64]; decide +kernel
theorem d64_12 : decode (mC 64) 12 = .ok (.return_, 1) := by rw [mC_64]; decide +kernel
theorem s64_0 {S : Nat × (Nat → Int32)} {L : List (Option Value)} {st : List Value} {n : Nat} {Q : xQ} {μ : xM} {a : Nat} (hl : L[0]? = some (some (.ref a))) (h : x_V S 64 1 L (.ref a :: st) μ n Q) : x_V S 64 0 L (st) μ n Q := x_aload_n d64_0 hl h
theorem s64_0N {S : Nat × (Nat → Int32)} {L : List (Option Value)} {st : List Value} {n : Nat} {Q : xQ} {μ : xM} (hl : L[0]? = some (some .null)) (h : x_V S 64 1 L (.null :: st) μ n Q) : x_V S 64 0 L st μ n Q := x_aload_nN d64_0 hl h
theorem s64_1 {S : Nat × (Nat → Int32)} {L : List (Option Value)} {st : List Value} {n : Nat} {Q : xQ} {μ : xM}  (h : x_V S 64 3 L (.int (I 53) :: st) μ n Q) : x_V S 64 1 L (st) μ n Q := x_bipush (by decide +kernel) d64_1 h
theorem s64_3 {S : Nat × (Nat → Int32)} {L : List (Option Value)} {st : List Value} {n : Nat} {Q : xQ} {μ : xM}  (h : x_V S 64 4 L (.int (I 0) :: st) μ n Q) : x_V S 64 3 L (st) μ n Q := x_iconst (by decide +kernel) d64_3 h
theorem s64_4 {S : Nat × (Nat → Int32)} {L : List (Option Value)} {st : List Value} {n : Nat} {Q : xQ} {μ : xM}  (h : x_V S 64 5 L (.int (I 0) :: st) μ n Q) : x_V S 64 4 L (st) μ n Q := x_iconst (by decide +kernel) d64_4 h
theorem s64_5 {S : Nat × (Nat → Int32)} {L : List (Option Value)} {st : List Value} {n : Nat} {Q : xQ} {μ : xM} {x0 : Int32} {x1 : Int32} {x2 : Int32} {a : Nat} (hs : x_sh a = (4, 12)) (hst : st.length ≤ 4) (h : x_V S 65 0 [some (.ref a), some (.int x0), some (.int x1), some (.int x2)] [] μ n (x_bk S 64 5 L st Q)) : x_V S 64 5 L (.int x2 :: .int x1 :: .int x0 :: .ref a :: st) μ n Q := x_callV (k' := 65) (as := [.int x0, .int x1, .int x2]) (na := 3) d64_5 ⟨w252, by decide +kernel, by decide, by decide, by decide, by decide, by decide⟩ cf4 w249 w251 wp1 (by decide +kernel) rfl hs (fun v hv => by
    simp only [List.mem_cons, List.not_mem_nil, or_false] at hv
    rcases hv with rfl | rfl | rfl <;> first | rfl | assumption) hst h
theorem s64_8 {S : Nat × (Nat → Int32)} {L : List (Option Value)} {st : List Value} {n : Nat} {Q : xQ} {μ : xM} {a : Nat} (hl : L[0]? = some (some (.ref a))) (h : x_V S 64 9 L (.ref a :: st) μ n Q) : x_V S 64 8 L (st) μ n Q := x_aload_n d64_8 hl h
theorem s64_8N {S : Nat × (Nat → Int32)} {L : List (Option Value)} {st : List Value} {n : Nat} {Q : xQ} {μ : xM} (hl : L[0]? = some (some .null)) (h : x_V S 64 9 L (.null :: st) μ n Q) : x_V S 64 8 L st μ n Q := x_aload_nN d64_8 hl h
theorem s64_9 {S : Nat × (Nat → Int32)} {L : List (Option Value)} {st : List Value} {n : Nat} {Q : xQ} {μ : xM}  {a : Nat} (hs : x_sh a = (4, 12)) (hst : st.length ≤ 4) (h : x_V S 57 0 [some (.ref a)] [] μ n (x_bk S 64 9 L st Q)) : x_V S 64 9 L (.ref a :: st) μ n Q := x_callV (k' := 57) (as := []) (na := 0) d64_9 ⟨w272, by decide +kernel, by decide, by decide, by decide, by decide, by decide⟩ cf4 w269 w270 w271 (by decide +kernel) rfl hs (fun v hv => by
    cases hv) hst h
theorem s64_12 {S : Nat × (Nat → Int32)} {L : List (Option Value)} {st : List Value} {n : Nat} {Q : xQ} {μ : xM}  (h : Q (.inl none) μ n) : x_V S 64 12 L ([]) μ n Q := x_return d64_12 rfl h
theorem mC_65 : mC 65 = prog_9_method_12_code := rfl
theorem d65_0 : decode (mC 65) 0 = .ok (.aload_n 0, 1) := by rw [mC_65]; decide +kernel
theorem d65_1 : decode (mC 65) 1 = .ok (.iload_n 1, 1) := by rw [mC_65]; decide +kernel
theorem d65_2 : decode (mC 65) 2 = .ok (.aload_n 0, 1) := by rw [mC_65]; decide +kernel
theorem d65_3 : decode (mC 65) 3 = .ok (.getfield 36, 3) := by rw [mC_65]; decide +kernel
theorem d65_6 : decode (mC 65) 6 = .ok (.iconst 0, 1) := by rw [mC_65]; decide +kernel
theorem d65_7 : decode (mC 65) 7 = .ok (.invokevirtual 119, 3) := by rw [mC_65]; decide +kernel
theorem d65_10 : decode (mC 65) 10 = .ok (.iload_n 2, 1) := by rw [mC_65]; decide +kernel
theorem d65_11 : decode (mC 65) 11 = .ok (.iload_n 3, 1) := by rw [mC_65]; decide +kernel
theorem d65_12 : decode (mC 65) 12 = .ok (.iconst 0, 1) := by rw [mC_65]; decide +kernel
theorem d65_13 : decode (mC 65) 13 = .ok (.iconst 0, 1) := by rw [mC_65]; decide +kernel
theorem d65_14 : decode (mC 65) 14 = .ok (.invokevirtual 123, 3) := by rw [mC_65]; decide +kernel
theorem d65_17 : decode (mC 65) 17 = .ok (.aload_n 0, 1) := by rw [mC_65]; decide +kernel
theorem d65_18 : decode (mC 65) 18 = .ok (.dup, 1) := by rw [mC_65]; decide +kernel
theorem d65_19 : decode (mC 65) 19 = .ok (.getfield 36, 3) := by rw [mC_65]; decide +kernel
theorem d65_22 : decode (mC 65) 22 = .ok (.iconst 1, 1) := by rw [mC_65]; decide +kernel
theorem d65_23 : decode (mC 65) 23 = .ok (.iadd, 1) := by rw [mC_65]; decide +kernel
theorem d65_24 : decode (mC 65) 24 = .ok (.putfield 36, 3) := by rw [mC_65]; decide +kernel
theorem d65_27 : decode (mC 65) 27 = .ok (.return_, 1) := by rw [mC_65]; decide +kernel
theorem s65_0 {S : Nat × (Nat → Int32)} {L : List (Option Value)} {st : List Value} {n : Nat} {Q : xQ} {μ : xM} {a : Nat} (hl : L[0]? = some (some (.ref a))) (h : x_V S 65 1 L (.ref a :: st) μ n Q) : x_V S 65 0 L (st) μ n Q := x_aload_n d65_0 hl h
theorem s65_0N {S : Nat × (Nat → Int32)} {L : List (Option Value)} {st : List Value} {n : Nat} {Q : xQ} {μ : xM} (hl : L[0]? = some (some .null)) (h : x_V S 65 1 L (.null :: st) μ n Q) : x_V S 65 0 L st μ n Q := x_aload_nN d65_0 hl h
theorem s65_1 {S : Nat × (Nat → Int32)} {L : List (Option Value)} {st : List Value} {n : Nat} {Q : xQ} {μ : xM} {x : Int32} (hl : L[1]? = some (some (.int x))) (h : x_V S 65 2 L (.int x :: st) μ n Q) : x_V S 65 1 L (st) μ n Q := x_iload_n d65_1 hl h
theorem s65_2 {S : Nat × (Nat → Int32)} {L : List (Option Value)} {st : List Value} {n : Nat} {Q : xQ} {μ : xM} {a : Nat} (hl : L[0]? = some (some (.ref a))) (h : x_V S 65 3 L (.ref a :: st) μ n Q) : x_V S 65 2 L (st) μ n Q := x_aload_n d65_2 hl h
theorem s65_2N {S : Nat × (Nat → Int32)} {L : List (Option Value)} {st : List Value} {n : Nat} {Q : xQ} {μ : xM} (hl : L[0]? = some (some .null)) (h : x_V S 65 3 L (.null :: st) μ n Q) : x_V S 65 2 L st μ n Q := x_aload_nN d65_2 hl h
theorem s65_3 {S : Nat × (Nat → Int32)} {L : List (Option Value)} {st : List Value} {n : Nat} {Q : xQ} {g : Nat → Nat → Int} {a : Nat} (hs : x_sh a = (4, 12)) (hp : x_pt a 4 = none) (ha : a ≠ x_out) (h : x_V S 65 6 L (.int (I (g a 4)) :: st) (x_vm g) n Q) : x_V S 65 3 L (.ref a :: st) (x_vm g) n Q := v_get (i := 4) cf4 d65_3 (by decide) w185 hs hp ha h
theorem s65_6 {S : Nat × (Nat → Int32)} {L : List (Option Value)} {st : List Value} {n : Nat} {Q : xQ} {μ : xM}  (h : x_V S 65 7 L (.int (I 0) :: st) μ n Q) : x_V S 65 6 L (st) μ n Q := x_iconst (by decide +kernel) d65_6 h
theorem s65_7 {S : Nat × (Nat → Int32)} {L : List (Option Value)} {st : List Value} {n : Nat} {Q : xQ} {μ : xM} {x0 : Int32} {x1 : Int32} {x2 : Int32} {a : Nat} (hs : x_sh a = (4, 12)) (hst : st.length ≤ 4) (h : x_V S 68 0 [some (.ref a), some (.int x0), some (.int x1), some (.int x2), none] [] μ n (x_bk S 65 7 L st Q)) : x_V S 65 7 L (.int x2 :: .int x1 :: .int x0 :: .ref a :: st) μ n Q := x_callV (k' := 68) (as := [.int x0, .int x1, .int x2]) (na := 3) d65_7 ⟨w256, by decide +kernel, by decide, by decide, by decide, by decide, by decide⟩ cf4 w253 w255 wp2 (by decide +kernel) rfl hs (fun v hv => by
    simp only [List.mem_cons, List.not_mem_nil, or_false] at hv
    rcases hv with rfl | rfl | rfl <;> first | rfl | assumption) hst h
theorem s65_10 {S : Nat × (Nat → Int32)} {L : List (Option Value)} {st : List Value} {n : Nat} {Q : xQ} {μ : xM} {x : Int32} (hl : L[2]? = some (some (.int x))) (h : x_V S 65 11 L (.int x :: st) μ n Q) : x_V S 65 10 L (st) μ n Q := x_iload_n d65_10 hl h
theorem s65_11 {S : Nat × (Nat → Int32)} {L : List (Option Value)} {st : List Value} {n : Nat} {Q : xQ} {μ : xM} {x : Int32} (hl : L[3]? = some (some (.int x))) (h : x_V S 65 12 L (.int x :: st) μ n Q) : x_V S 65 11 L (st) μ n Q := x_iload_n d65_11 hl h
theorem s65_12 {S : Nat × (Nat → Int32)} {L : List (Option Value)} {st : List Value} {n : Nat} {Q : xQ} {μ : xM}  (h : x_V S 65 13 L (.int (I 0) :: st) μ n Q) : x_V S 65 12 L (st) μ n Q := x_iconst (by decide +kernel) d65_12 h
theorem s65_13 {S : Nat × (Nat → Int32)} {L : List (Option Value)} {st : List Value} {n : Nat} {Q : xQ} {μ : xM}  (h : x_V S 65 14 L (.int (I 0) :: st) μ n Q) : x_V S 65 13 L (st) μ n Q := x_iconst (by decide +kernel) d65_13 h
theorem s65_14 {S : Nat × (Nat → Int32)} {L : List (Option Value)} {st : List Value} {n : Nat} {Q : xQ} {μ : xM} {x0 : Int32} {x1 : Int32} {x2 : Int32} {x3 : Int32} {a : Nat} (hs : x_sh a = (3, 4)) (hst : st.length ≤ 4) (h : x_V S 23 0 [some (.ref a), some (.int x0), some (.int x1), some (.int x2), some (.int x3)] [] μ n (x_bk S 65 14 L st Q)) : x_V S 65 14 L (.int x3 :: .int x2 :: .int x1 :: .int x0 :: .ref a :: st) μ n Q := x_callV (k' := 23) (as := [.int x0, .int x1, .int x2, .int x3]) (na := 4) d65_14 ⟨w268, by decide +kernel, by decide, by decide, by decide, by decide, by decide⟩ cf3 w265 w266 w267 (by decide +kernel) rfl hs (fun v hv => by
    simp only [List.mem_cons, List.not_mem_nil, or_false] at hv
    rcases hv with rfl | rfl | rfl | rfl <;> first | rfl | assumption) hst h
theorem s65_17 {S : Nat × (Nat → Int32)} {L : List (Option Value)} {st : List Value} {n : Nat} {Q : xQ} {μ : xM} {a : Nat} (hl : L[0]? = some (some (.ref a))) (h : x_V S 65 18 L (.ref a :: st) μ n Q) : x_V S 65 17 L (st) μ n Q := x_aload_n d65_17 hl h
theorem s65_17N {S : Nat × (Nat → Int32)} {L : List (Option Value)} {st : List Value} {n : Nat} {Q : xQ} {μ : xM} (hl : L[0]? = some (some .null)) (h : x_V S 65 18 L (.null :: st) μ n Q) : x_V S 65 17 L st μ n Q := x_aload_nN d65_17 hl h
theorem s65_18 {S : Nat × (Nat → Int32)} {L : List (Option Value)} {st : List Value} {n : Nat} {Q : xQ} {μ : xM} {v : Value} (hc : v.category = 1) (h : x_V S 65 19 L (v :: v :: st) μ n Q) : x_V S 65 18 L (v :: st) μ n Q := x_dup hc d65_18 h
theorem s65_19 {S : Nat × (Nat → Int32)} {L : List (Option Value)} {st : List Value} {n : Nat} {Q : xQ} {g : Nat → Nat → Int} {a : Nat} (hs : x_sh a = (4, 12)) (hp : x_pt a 4 = none) (ha : a ≠ x_out) (h : x_V S 65 22 L (.int (I (g a 4)) :: st) (x_vm g) n Q) : x_V S 65 19 L (.ref a :: st) (x_vm g) n Q := v_get (i := 4) cf4 d65_19 (by decide) w185 hs hp ha h
theorem s65_22 {S : Nat × (Nat → Int32)} {L : List (Option Value)} {st : List Value} {n : Nat} {Q : xQ} {μ : xM}  (h : x_V S 65 23 L (.int (I 1) :: st) μ n Q) : x_V S 65 22 L (st) μ n Q := x_iconst (by decide +kernel) d65_22 h
theorem s65_23 {S : Nat × (Nat → Int32)} {L : List (Option Value)} {st : List Value} {n : Nat} {Q : xQ} {μ : xM} {x y : Int} (h : x_V S 65 24 L (.int (I (x + y)) :: st) μ n Q) : x_V S 65 23 L (.int (I y) :: .int (I x) :: st) μ n Q := v_iadd d65_23 h
theorem s65_24 {S : Nat × (Nat → Int32)} {L : List (Option Value)} {st : List Value} {n : Nat} {Q : xQ} {g : Nat → Nat → Int} {a : Nat} {x : Int} (hs : x_sh a = (4, 12)) (hp : x_pt a 4 = none) (ha : a ≠ x_out) (h : x_V S 65 27 L (st) (x_vm (x_uf g a 4 x)) n Q) : x_V S 65 24 L (.int (I x) :: .ref a :: st) (x_vm g) n Q := v_put (i := 4) cf4 d65_24 (by decide) rfl w185 hs rfl hp ha h
theorem s65_27 {S : Nat × (Nat → Int32)} {L : List (Option Value)} {st : List Value} {n : Nat} {Q : xQ} {μ : xM}  (h : Q (.inl none) μ n) : x_V S 65 27 L ([]) μ n Q := x_return d65_27 rfl h
theorem mC_66 : mC 66 = prog_9_method_13_code := rfl
theorem d66_0 : decode (mC 66) 0 = .ok (.iload_n 2, 1) := by rw [mC_66]; decide +kernel
theorem d66_1 : decode (mC 66) 1 = .ok (.ifCond .eq 11, 3) := by rw [mC_66]; decide +kernel
theorem d66_4 : decode (mC 66) 4 = .ok (.iload_n 2, 1) := by rw [mC_66]; decide +kernel
theorem d66_5 : decode (mC 66) 5 = .ok (.aload_n 0, 1) := by rw [mC_66]; decide +kernel
theorem d66_6 : decode (mC 66) 6 = .ok (.getfield 36, 3) := by rw [mC_66]; decide +kernel
theorem d66_9 : decode (mC 66) 9 = .ok (.if_icmp .lt 12, 3) := by rw [mC_66]; decide +kernel
theorem d66_12 : decode (mC 66) 12 = .ok (.aload_n 0, 1) := by rw [mC_66]; decide +kernel
theorem d66_13 : decode (mC 66) 13 = .ok (.getfield 36, 3) := by rw [mC_66]; decide +kernel
theorem d66_16 : decode (mC 66) 16 = .ok (.iconst 1, 1) := by rw [mC_66]; decide +kernel
theorem d66_17 : decode (mC 66) 17 = .ok (.isub, 1) := by rw [mC_66]; decide +kernel
theorem d66_18 : decode (mC 66) 18 = .ok (.goto 4, 3) := by rw [mC_66]; decide +kernel
theorem d66_21 : decode (mC 66) 21 = .ok (.iload_n 2, 1) := by rw [mC_66]; decide +kernel
theorem d66_22 : decode (mC 66) 22 = .ok (.istore_n 3, 1) := by rw [mC_66]; decide +kernel
theorem d66_23 : decode (mC 66) 23 = .ok (.iload_n 1, 1) := by rw [mC_66]; decide +kernel
theorem d66_24 : decode (mC 66) 24 = .ok (.iconst 1, 1) := by rw [mC_66]; decide +kernel
theorem d66_25 : decode (mC 66) 25 = .ok (.invokestatic 131, 3) := by rw [mC_66]; decide +kernel
theorem d66_28 : decode (mC 66) 28 = .ok (.istore 4, 2) := by rw [mC_66]; decide +kernel
theorem d66_30 : decode (mC 66) 30 = .ok (.iconst 0, 1) := by rw [mC_66]; decide +kernel
theorem d66_31 : decode (mC 66) 31 = .ok (.istore 5, 2) := by rw [mC_66]; decide +kernel
theorem d66_33 : decode (mC 66) 33 = .ok (.iload 5, 2) := by rw [mC_66]; decide +kernel
theorem d66_35 : decode (mC 66) 35 = .ok (.aload_n 0, 1) := by rw [mC_66]; decide +kernel
theorem d66_36 : decode (mC 66) 36 = .ok (.getfield 28, 3) := by rw [mC_66]; decide +kernel
theorem d66_39 : decode (mC 66) 39 = .ok (.getfield 151, 3) := by rw [mC_66]; decide +kernel
theorem d66_42 : decode (mC 66) 42 = .ok (.if_icmp .ge 65, 3) := by rw [mC_66]; decide +kernel
theorem d66_45 : decode (mC 66) 45 = .ok (.aload_n 0, 1) := by rw [mC_66]; decide +kernel
theorem d66_46 : decode (mC 66) 46 = .ok (.getfield 28, 3) := by rw [mC_66]; decide +kernel
theorem d66_49 : decode (mC 66) 49 = .ok (.iload 5, 2) := by rw [mC_66]; decide +kernel
theorem d66_51 : decode (mC 66) 51 = .ok (.invokevirtual 154, 3) := by rw [mC_66]; decide +kernel
theorem d66_54 : decode (mC 66) 54 = .ok (.istore 6, 2) := by rw [mC_66]; decide +kernel
theorem d66_56 : decode (mC 66) 56 = .ok (.iload 6, 2) := by rw [mC_66]; decide +kernel
theorem d66_58 : decode (mC 66) 58 = .ok (.iload 4, 2) := by rw [mC_66]; decide +kernel
theorem d66_60 : decode (mC 66) 60 = .ok (.if_icmp .lt 41, 3) := by rw [mC_66]; decide +kernel
theorem d66_63 : decode (mC 66) 63 = .ok (.iload 6, 2) := by rw [mC_66]; decide +kernel
theorem d66_65 : decode (mC 66) 65 = .ok (.iload_n 3, 1) := by rw [mC_66]; decide +kernel
theorem d66_66 : decode (mC 66) 66 = .ok (.if_icmp .gt 35, 3) := by rw [mC_66]; decide +kernel
theorem d66_69 : decode (mC 66) 69 = .ok (.aload_n 0, 1) := by rw [mC_66]; decide +kernel
theorem d66_70 : decode (mC 66) 70 = .ok (.iload 4, 2) := by rw [mC_66]; decide +kernel
theorem d66_72 : decode (mC 66) 72 = .ok (.iload 6, 2) := by rw [mC_66]; decide +kernel
theorem d66_74 : decode (mC 66) 74 = .ok (.invokevirtual 158, 3) := by rw [mC_66]; decide +kernel
theorem d66_77 : decode (mC 66) 77 = .ok (.aload_n 0, 1) := by rw [mC_66]; decide +kernel
theorem d66_78 : decode (mC 66) 78 = .ok (.getfield 28, 3) := by rw [mC_66]; decide +kernel
theorem d66_81 : decode (mC 66) 81 = .ok (.iload 5, 2) := by rw [mC_66]; decide +kernel
theorem d66_83 : decode (mC 66) 83 = .ok (.aload_n 0, 1) := by rw [mC_66]; decide +kernel
theorem d66_84 : decode (mC 66) 84 = .ok (.bipush 56, 2) := by rw [mC_66]; decide +kernel
theorem d66_86 : decode (mC 66) 86 = .ok (.iload 6, 2) := by rw [mC_66]; decide +kernel
theorem d66_88 : decode (mC 66) 88 = .ok (.iconst 1, 1) := by rw [mC_66]; decide +kernel
theorem d66_89 : decode (mC 66) 89 = .ok (.invokevirtual 119, 3) := by rw [mC_66]; decide +kernel
theorem d66_92 : decode (mC 66) 92 = .ok (.invokevirtual 161, 3) := by rw [mC_66]; decide +kernel
theorem d66_95 : decode (mC 66) 95 = .ok (.iload 6, 2) := by rw [mC_66]; decide +kernel
theorem d66_97 : decode (mC 66) 97 = .ok (.iconst 1, 1) := by rw [mC_66]; decide +kernel
theorem d66_98 : decode (mC 66) 98 = .ok (.iadd, 1) := by rw [mC_66]; decide +kernel
theorem d66_99 : decode (mC 66) 99 = .ok (.istore 4, 2) := by rw [mC_66]; decide +kernel
theorem d66_101 : decode (mC 66) 101 = .ok (.iinc 5 1, 3) := by rw [mC_66]; decide +kernel
theorem d66_104 : decode (mC 66) 104 = .ok (.goto (-71), 3) := by rw [mC_66]; decide +kernel
theorem d66_107 : decode (mC 66) 107 = .ok (.aload_n 0, 1) := by rw [mC_66]; decide +kernel
theorem d66_108 : decode (mC 66) 108 = .ok (.iload 4, 2) := by rw [mC_66]; decide +kernel
theorem d66_110 : decode (mC 66) 110 = .ok (.iload_n 3, 1) := by rw [mC_66]; decide +kernel
theorem d66_111 : decode (mC 66) 111 = .ok (.iconst 1, 1) := by rw [mC_66]; decide +kernel
theorem d66_112 : decode (mC 66) 112 = .ok (.iadd, 1) := by rw [mC_66]; decide +kernel
theorem d66_113 : decode (mC 66) 113 = .ok (.invokevirtual 158, 3) := by rw [mC_66]; decide +kernel
theorem d66_116 : decode (mC 66) 116 = .ok (.return_, 1) := by rw [mC_66]; decide +kernel
theorem s66_0 {S : Nat × (Nat → Int32)} {L : List (Option Value)} {st : List Value} {n : Nat} {Q : xQ} {μ : xM} {x : Int32} (hl : L[2]? = some (some (.int x))) (h : x_V S 66 1 L (.int x :: st) μ n Q) : x_V S 66 0 L (st) μ n Q := x_iload_n d66_0 hl h
theorem s66_1 {S : Nat × (Nat → Int32)} {L : List (Option Value)} {st : List Value} {n : Nat} {Q : xQ} {μ : xM} {x : Int} (hx : ib x) (kt : x = 0 → x_V S 66 12 L (st) μ n Q) (kf : x ≠ 0 → x_V S 66 4 L (st) μ n Q) : x_V S 66 1 L (.int (I x) :: st) μ n Q := v_if_eq d66_1 (by decide) hx kt kf
theorem s66_4 {S : Nat × (Nat → Int32)} {L : List (Option Value)} {st : List Value} {n : Nat} {Q : xQ} {μ : xM} {x : Int32} (hl : L[2]? = some (some (.int x))) (h : x_V S 66 5 L (.int x :: st) μ n Q) : x_V S 66 4 L (st) μ n Q := x_iload_n d66_4 hl h
theorem s66_5 {S : Nat × (Nat → Int32)} {L : List (Option Value)} {st : List Value} {n : Nat} {Q : xQ} {μ : xM} {a : Nat} (hl : L[0]? = some (some (.ref a))) (h : x_V S 66 6 L (.ref a :: st) μ n Q) : x_V S 66 5 L (st) μ n Q := x_aload_n d66_5 hl h
theorem s66_5N {S : Nat × (Nat → Int32)} {L : List (Option Value)} {st : List Value} {n : Nat} {Q : xQ} {μ : xM} (hl : L[0]? = some (some .null)) (h : x_V S 66 6 L (.null :: st) μ n Q) : x_V S 66 5 L st μ n Q := x_aload_nN d66_5 hl h
theorem s66_6 {S : Nat × (Nat → Int32)} {L : List (Option Value)} {st : List Value} {n : Nat} {Q : xQ} {g : Nat → Nat → Int} {a : Nat} (hs : x_sh a = (4, 12)) (hp : x_pt a 4 = none) (ha : a ≠ x_out) (h : x_V S 66 9 L (.int (I (g a 4)) :: st) (x_vm g) n Q) : x_V S 66 6 L (.ref a :: st) (x_vm g) n Q := v_get (i := 4) cf4 d66_6 (by decide) w185 hs hp ha h
theorem s66_9 {S : Nat × (Nat → Int32)} {L : List (Option Value)} {st : List Value} {n : Nat} {Q : xQ} {μ : xM} {x y : Int} (hx : ib x) (hy : ib y) (kt : x < y → x_V S 66 21 L (st) μ n Q) (kf : y ≤ x → x_V S 66 12 L (st) μ n Q) : x_V S 66 9 L (.int (I y) :: .int (I x) :: st) μ n Q := v_icmp_lt d66_9 (by decide) hx hy kt kf
theorem s66_12 {S : Nat × (Nat → Int32)} {L : List (Option Value)} {st : List Value} {n : Nat} {Q : xQ} {μ : xM} {a : Nat} (hl : L[0]? = some (some (.ref a))) (h : x_V S 66 13 L (.ref a :: st) μ n Q) : x_V S 66 12 L (st) μ n Q := x_aload_n d66_12 hl h
theorem s66_12N {S : Nat × (Nat → Int32)} {L : List (Option Value)} {st : List Value} {n : Nat} {Q : xQ} {μ : xM} (hl : L[0]? = some (some .null)) (h : x_V S 66 13 L (.null :: st) μ n Q) : x_V S 66 12 L st μ n Q := x_aload_nN d66_12 hl h
theorem s66_13 {S : Nat × (Nat → Int32)} {L : List (Option Value)} {st : List Value} {n : Nat} {Q : xQ} {g : Nat → Nat → Int} {a : Nat} (hs : x_sh a = (4, 12)) (hp : x_pt a 4 = none) (ha : a ≠ x_out) (h : x_V S 66 16 L (.int (I (g a 4)) :: st) (x_vm g) n Q) : x_V S 66 13 L (.ref a :: st) (x_vm g) n Q := v_get (i := 4) cf4 d66_13 (by decide) w185 hs hp ha h
theorem s66_16 {S : Nat × (Nat → Int32)} {L : List (Option Value)} {st : List Value} {n : Nat} {Q : xQ} {μ : xM}  (h : x_V S 66 17 L (.int (I 1) :: st) μ n Q) : x_V S 66 16 L (st) μ n Q := x_iconst (by decide +kernel) d66_16 h
theorem s66_17 {S : Nat × (Nat → Int32)} {L : List (Option Value)} {st : List Value} {n : Nat} {Q : xQ} {μ : xM} {x y : Int} (h : x_V S 66 18 L (.int (I (x - y)) :: st) μ n Q) : x_V S 66 17 L (.int (I y) :: .int (I x) :: st) μ n Q := v_isub d66_17 h
theorem s66_18 {S : Nat × (Nat → Int32)} {L : List (Option Value)} {st : List Value} {n : Nat} {Q : xQ} {μ : xM}  (h : x_V S 66 22 L (st) μ n Q) : x_V S 66 18 L (st) μ n Q := x_goto (tgt := 22) (by decide) d66_18 h
theorem s66_21 {S : Nat × (Nat → Int32)} {L : List (Option Value)} {st : List Value} {n : Nat} {Q : xQ} {μ : xM} {x : Int32} (hl : L[2]? = some (some (.int x))) (h : x_V S 66 22 L (.int x :: st) μ n Q) : x_V S 66 21 L (st) μ n Q := x_iload_n d66_21 hl h
theorem s66_22 {S : Nat × (Nat → Int32)} {L : List (Option Value)} {st : List Value} {n : Nat} {Q : xQ} {μ : xM} {x : Int32} (h : x_V S 66 23 (L.set 3 (some (.int x))) (st) μ n Q) : x_V S 66 22 L (.int x :: st) μ n Q := x_istore_n d66_22 (by decide) h
theorem s66_23 {S : Nat × (Nat → Int32)} {L : List (Option Value)} {st : List Value} {n : Nat} {Q : xQ} {μ : xM} {x : Int32} (hl : L[1]? = some (some (.int x))) (h : x_V S 66 24 L (.int x :: st) μ n Q) : x_V S 66 23 L (st) μ n Q := x_iload_n d66_23 hl h
theorem s66_24 {S : Nat × (Nat → Int32)} {L : List (Option Value)} {st : List Value} {n : Nat} {Q : xQ} {μ : xM}  (h : x_V S 66 25 L (.int (I 1) :: st) μ n Q) : x_V S 66 24 L (st) μ n Q := x_iconst (by decide +kernel) d66_24 h
theorem s66_25 {S : Nat × (Nat → Int32)} {L : List (Option Value)} {st : List Value} {n : Nat} {Q : xQ} {μ : xM} {x y : Int} (hst : st.length ≤ 4) (hx : ib x) (hy : ib y) (h : x_V S 66 28 L (.int (I (if x < y then y else x)) :: st) μ n Q) : x_V S 66 25 L (.int (I y) :: .int (I x) :: st) μ n Q := v_max d66_25 w555 w556 w18 w557 ⟨by decide, by decide⟩ hst hx hy h
theorem s66_28 {S : Nat × (Nat → Int32)} {L : List (Option Value)} {st : List Value} {n : Nat} {Q : xQ} {μ : xM} {x : Int32} (h : x_V S 66 30 (L.set 4 (some (.int x))) (st) μ n Q) : x_V S 66 28 L (.int x :: st) μ n Q := x_istore d66_28 (by decide) h
theorem s66_30 {S : Nat × (Nat → Int32)} {L : List (Option Value)} {st : List Value} {n : Nat} {Q : xQ} {μ : xM}  (h : x_V S 66 31 L (.int (I 0) :: st) μ n Q) : x_V S 66 30 L (st) μ n Q := x_iconst (by decide +kernel) d66_30 h
theorem s66_31 {S : Nat × (Nat → Int32)} {L : List (Option Value)} {st : List Value} {n : Nat} {Q : xQ} {μ : xM} {x : Int32} (h : x_V S 66 33 (L.set 5 (some (.int x))) (st) μ n Q) : x_V S 66 31 L (.int x :: st) μ n Q := x_istore d66_31 (by decide) h
theorem s66_33 {S : Nat × (Nat → Int32)} {L : List (Option Value)} {st : List Value} {n : Nat} {Q : xQ} {μ : xM} {x : Int32} (hl : L[5]? = some (some (.int x))) (h : x_V S 66 35 L (.int x :: st) μ n Q) : x_V S 66 33 L (st) μ n Q := x_iload d66_33 hl h
theorem s66_35 {S : Nat × (Nat → Int32)} {L : List (Option Value)} {st : List Value} {n : Nat} {Q : xQ} {μ : xM} {a : Nat} (hl : L[0]? = some (some (.ref a))) (h : x_V S 66 36 L (.ref a :: st) μ n Q) : x_V S 66 35 L (st) μ n Q := x_aload_n d66_35 hl h
theorem s66_35N {S : Nat × (Nat → Int32)} {L : List (Option Value)} {st : List Value} {n : Nat} {Q : xQ} {μ : xM} (hl : L[0]? = some (some .null)) (h : x_V S 66 36 L (.null :: st) μ n Q) : x_V S 66 35 L st μ n Q := x_aload_nN d66_35 hl h
theorem s66_36 {S : Nat × (Nat → Int32)} {L : List (Option Value)} {st : List Value} {n : Nat} {Q : xQ} {g : Nat → Nat → Int} {a : Nat} {v : Value} (hs : x_sh a = (4, 12)) (hp : x_pt a 2 = some v) (h : x_V S 66 39 L (v :: st) (x_vm g) n Q) : x_V S 66 36 L (.ref a :: st) (x_vm g) n Q := v_getp (i := 2) cf4 d66_36 (by decide) w182 hs hp h
theorem s66_39 {S : Nat × (Nat → Int32)} {L : List (Option Value)} {st : List Value} {n : Nat} {Q : xQ} {g : Nat → Nat → Int} {a : Nat} (hs : x_sh a = (8, 2)) (hp : x_pt a 1 = none) (ha : a ≠ x_out) (h : x_V S 66 42 L (.int (I (g a 1)) :: st) (x_vm g) n Q) : x_V S 66 39 L (.ref a :: st) (x_vm g) n Q := v_get (i := 1) cf8 d66_39 (by decide) w172 hs hp ha h
theorem s66_42 {S : Nat × (Nat → Int32)} {L : List (Option Value)} {st : List Value} {n : Nat} {Q : xQ} {μ : xM} {x y : Int} (hx : ib x) (hy : ib y) (kt : y ≤ x → x_V S 66 107 L (st) μ n Q) (kf : x < y → x_V S 66 45 L (st) μ n Q) : x_V S 66 42 L (.int (I y) :: .int (I x) :: st) μ n Q := v_icmp_ge d66_42 (by decide) hx hy kt kf
theorem s66_45 {S : Nat × (Nat → Int32)} {L : List (Option Value)} {st : List Value} {n : Nat} {Q : xQ} {μ : xM} {a : Nat} (hl : L[0]? = some (some (.ref a))) (h : x_V S 66 46 L (.ref a :: st) μ n Q) : x_V S 66 45 L (st) μ n Q := x_aload_n d66_45 hl h
theorem s66_45N {S : Nat × (Nat → Int32)} {L : List (Option Value)} {st : List Value} {n : Nat} {Q : xQ} {μ : xM} (hl : L[0]? = some (some .null)) (h : x_V S 66 46 L (.null :: st) μ n Q) : x_V S 66 45 L st μ n Q := x_aload_nN d66_45 hl h
theorem s66_46 {S : Nat × (Nat → Int32)} {L : List (Option Value)} {st : List Value} {n : Nat} {Q : xQ} {g : Nat → Nat → Int} {a : Nat} {v : Value} (hs : x_sh a = (4, 12)) (hp : x_pt a 2 = some v) (h : x_V S 66 49 L (v :: st) (x_vm g) n Q) : x_V S 66 46 L (.ref a :: st) (x_vm g) n Q := v_getp (i := 2) cf4 d66_46 (by decide) w182 hs hp h
theorem s66_49 {S : Nat × (Nat → Int32)} {L : List (Option Value)} {st : List Value} {n : Nat} {Q : xQ} {μ : xM} {x : Int32} (hl : L[5]? = some (some (.int x))) (h : x_V S 66 51 L (.int x :: st) μ n Q) : x_V S 66 49 L (st) μ n Q := x_iload d66_49 hl h
theorem s66_51 {S : Nat × (Nat → Int32)} {L : List (Option Value)} {st : List Value} {n : Nat} {Q : xQ} {μ : xM} {x0 : Int32} {a : Nat} (hs : x_sh a = (8, 2)) (hst : st.length ≤ 4) (h : x_V S 44 0 [some (.ref a), some (.int x0)] [] μ n (x_bk S 66 51 L st Q)) : x_V S 66 51 L (.int x0 :: .ref a :: st) μ n Q := x_callV (k' := 44) (as := [.int x0]) (na := 1) d66_51 ⟨w561, by decide +kernel, by decide, by decide, by decide, by decide, by decide⟩ cf8 w558 w559 w560 (by decide +kernel) rfl hs (fun v hv => by
    simp only [List.mem_cons, List.not_mem_nil, or_false] at hv
    rcases hv with rfl <;> first | rfl | assumption) hst h
theorem s66_54 {S : Nat × (Nat → Int32)} {L : List (Option Value)} {st : List Value} {n : Nat} {Q : xQ} {μ : xM} {x : Int32} (h : x_V S 66 56 (L.set 6 (some (.int x))) (st) μ n Q) : x_V S 66 54 L (.int x :: st) μ n Q := x_istore d66_54 (by decide) h
theorem s66_56 {S : Nat × (Nat → Int32)} {L : List (Option Value)} {st : List Value} {n : Nat} {Q : xQ} {μ : xM} {x : Int32} (hl : L[6]? = some (some (.int x))) (h : x_V S 66 58 L (.int x :: st) μ n Q) : x_V S 66 56 L (st) μ n Q := x_iload d66_56 hl h
theorem s66_58 {S : Nat × (Nat → Int32)} {L : List (Option Value)} {st : List Value} {n : Nat} {Q : xQ} {μ : xM} {x : Int32} (hl : L[4]? = some (some (.int x))) (h : x_V S 66 60 L (.int x :: st) μ n Q) : x_V S 66 58 L (st) μ n Q := x_iload d66_58 hl h
theorem s66_60 {S : Nat × (Nat → Int32)} {L : List (Option Value)} {st : List Value} {n : Nat} {Q : xQ} {μ : xM} {x y : Int} (hx : ib x) (hy : ib y) (kt : x < y → x_V S 66 101 L (st) μ n Q) (kf : y ≤ x → x_V S 66 63 L (st) μ n Q) : x_V S 66 60 L (.int (I y) :: .int (I x) :: st) μ n Q := v_icmp_lt d66_60 (by decide) hx hy kt kf
theorem s66_63 {S : Nat × (Nat → Int32)} {L : List (Option Value)} {st : List Value} {n : Nat} {Q : xQ} {μ : xM} {x : Int32} (hl : L[6]? = some (some (.int x))) (h : x_V S 66 65 L (.int x :: st) μ n Q) : x_V S 66 63 L (st) μ n Q := x_iload d66_63 hl h
theorem s66_65 {S : Nat × (Nat → Int32)} {L : List (Option Value)} {st : List Value} {n : Nat} {Q : xQ} {μ : xM} {x : Int32} (hl : L[3]? = some (some (.int x))) (h : x_V S 66 66 L (.int x :: st) μ n Q) : x_V S 66 65 L (st) μ n Q := x_iload_n d66_65 hl h
theorem s66_66 {S : Nat × (Nat → Int32)} {L : List (Option Value)} {st : List Value} {n : Nat} {Q : xQ} {μ : xM} {x y : Int} (hx : ib x) (hy : ib y) (kt : y < x → x_V S 66 101 L (st) μ n Q) (kf : x ≤ y → x_V S 66 69 L (st) μ n Q) : x_V S 66 66 L (.int (I y) :: .int (I x) :: st) μ n Q := v_icmp_gt d66_66 (by decide) hx hy kt kf
theorem s66_69 {S : Nat × (Nat → Int32)} {L : List (Option Value)} {st : List Value} {n : Nat} {Q : xQ} {μ : xM} {a : Nat} (hl : L[0]? = some (some (.ref a))) (h : x_V S 66 70 L (.ref a :: st) μ n Q) : x_V S 66 69 L (st) μ n Q := x_aload_n d66_69 hl h
theorem s66_69N {S : Nat × (Nat → Int32)} {L : List (Option Value)} {st : List Value} {n : Nat} {Q : xQ} {μ : xM} (hl : L[0]? = some (some .null)) (h : x_V S 66 70 L (.null :: st) μ n Q) : x_V S 66 69 L st μ n Q := x_aload_nN d66_69 hl h
theorem s66_70 {S : Nat × (Nat → Int32)} {L : List (Option Value)} {st : List Value} {n : Nat} {Q : xQ} {μ : xM} {x : Int32} (hl : L[4]? = some (some (.int x))) (h : x_V S 66 72 L (.int x :: st) μ n Q) : x_V S 66 70 L (st) μ n Q := x_iload d66_70 hl h
theorem s66_72 {S : Nat × (Nat → Int32)} {L : List (Option Value)} {st : List Value} {n : Nat} {Q : xQ} {μ : xM} {x : Int32} (hl : L[6]? = some (some (.int x))) (h : x_V S 66 74 L (.int x :: st) μ n Q) : x_V S 66 72 L (st) μ n Q := x_iload d66_72 hl h
theorem s66_74 {S : Nat × (Nat → Int32)} {L : List (Option Value)} {st : List Value} {n : Nat} {Q : xQ} {μ : xM} {x0 : Int32} {x1 : Int32} {a : Nat} (hs : x_sh a = (4, 12)) (hst : st.length ≤ 4) (h : x_V S 67 0 [some (.ref a), some (.int x0), some (.int x1)] [] μ n (x_bk S 66 74 L st Q)) : x_V S 66 74 L (.int x1 :: .int x0 :: .ref a :: st) μ n Q := x_callV (k' := 67) (as := [.int x0, .int x1]) (na := 2) d66_74 ⟨w565, by decide +kernel, by decide, by decide, by decide, by decide, by decide⟩ cf4 w562 w564 wp18 (by decide +kernel) rfl hs (fun v hv => by
    simp only [List.mem_cons, List.not_mem_nil, or_false] at hv
    rcases hv with rfl | rfl <;> first | rfl | assumption) hst h
theorem s66_77 {S : Nat × (Nat → Int32)} {L : List (Option Value)} {st : List Value} {n : Nat} {Q : xQ} {μ : xM} {a : Nat} (hl : L[0]? = some (some (.ref a))) (h : x_V S 66 78 L (.ref a :: st) μ n Q) : x_V S 66 77 L (st) μ n Q := x_aload_n d66_77 hl h
theorem s66_77N {S : Nat × (Nat → Int32)} {L : List (Option Value)} {st : List Value} {n : Nat} {Q : xQ} {μ : xM} (hl : L[0]? = some (some .null)) (h : x_V S 66 78 L (.null :: st) μ n Q) : x_V S 66 77 L st μ n Q := x_aload_nN d66_77 hl h
theorem s66_78 {S : Nat × (Nat → Int32)} {L : List (Option Value)} {st : List Value} {n : Nat} {Q : xQ} {g : Nat → Nat → Int} {a : Nat} {v : Value} (hs : x_sh a = (4, 12)) (hp : x_pt a 2 = some v) (h : x_V S 66 81 L (v :: st) (x_vm g) n Q) : x_V S 66 78 L (.ref a :: st) (x_vm g) n Q := v_getp (i := 2) cf4 d66_78 (by decide) w182 hs hp h
theorem s66_81 {S : Nat × (Nat → Int32)} {L : List (Option Value)} {st : List Value} {n : Nat} {Q : xQ} {μ : xM} {x : Int32} (hl : L[5]? = some (some (.int x))) (h : x_V S 66 83 L (.int x :: st) μ n Q) : x_V S 66 81 L (st) μ n Q := x_iload d66_81 hl h
theorem s66_83 {S : Nat × (Nat → Int32)} {L : List (Option Value)} {st : List Value} {n : Nat} {Q : xQ} {μ : xM} {a : Nat} (hl : L[0]? = some (some (.ref a))) (h : x_V S 66 84 L (.ref a :: st) μ n Q) : x_V S 66 83 L (st) μ n Q := x_aload_n d66_83 hl h
theorem s66_83N {S : Nat × (Nat → Int32)} {L : List (Option Value)} {st : List Value} {n : Nat} {Q : xQ} {μ : xM} (hl : L[0]? = some (some .null)) (h : x_V S 66 84 L (.null :: st) μ n Q) : x_V S 66 83 L st μ n Q := x_aload_nN d66_83 hl h
theorem s66_84 {S : Nat × (Nat → Int32)} {L : List (Option Value)} {st : List Value} {n : Nat} {Q : xQ} {μ : xM}  (h : x_V S 66 86 L (.int (I 56) :: st) μ n Q) : x_V S 66 84 L (st) μ n Q := x_bipush (by decide +kernel) d66_84 h
theorem s66_86 {S : Nat × (Nat → Int32)} {L : List (Option Value)} {st : List Value} {n : Nat} {Q : xQ} {μ : xM} {x : Int32} (hl : L[6]? = some (some (.int x))) (h : x_V S 66 88 L (.int x :: st) μ n Q) : x_V S 66 86 L (st) μ n Q := x_iload d66_86 hl h
theorem s66_88 {S : Nat × (Nat → Int32)} {L : List (Option Value)} {st : List Value} {n : Nat} {Q : xQ} {μ : xM}  (h : x_V S 66 89 L (.int (I 1) :: st) μ n Q) : x_V S 66 88 L (st) μ n Q := x_iconst (by decide +kernel) d66_88 h
theorem s66_89 {S : Nat × (Nat → Int32)} {L : List (Option Value)} {st : List Value} {n : Nat} {Q : xQ} {μ : xM} {x0 : Int32} {x1 : Int32} {x2 : Int32} {a : Nat} (hs : x_sh a = (4, 12)) (hst : st.length ≤ 4) (h : x_V S 68 0 [some (.ref a), some (.int x0), some (.int x1), some (.int x2), none] [] μ n (x_bk S 66 89 L st Q)) : x_V S 66 89 L (.int x2 :: .int x1 :: .int x0 :: .ref a :: st) μ n Q := x_callV (k' := 68) (as := [.int x0, .int x1, .int x2]) (na := 3) d66_89 ⟨w256, by decide +kernel, by decide, by decide, by decide, by decide, by decide⟩ cf4 w253 w255 wp2 (by decide +kernel) rfl hs (fun v hv => by
    simp only [List.mem_cons, List.not_mem_nil, or_false] at hv
    rcases hv with rfl | rfl | rfl <;> first | rfl | assumption) hst h
theorem s66_92 {S : Nat × (Nat → Int32)} {L : List (Option Value)} {st : List Value} {n : Nat} {Q : xQ} {μ : xM} {x0 : Int32} {v1 : Value} (hc1 : v1.category = 1) {a : Nat} (hs : x_sh a = (8, 2)) (hst : st.length ≤ 4) (h : x_V S 45 0 [some (.ref a), some (.int x0), some (v1), none] [] μ n (x_bk S 66 92 L st Q)) : x_V S 66 92 L (v1 :: .int x0 :: .ref a :: st) μ n Q := x_callV (k' := 45) (as := [.int x0, v1]) (na := 2) d66_92 ⟨w569, by decide +kernel, by decide, by decide, by decide, by decide, by decide⟩ cf8 w566 w567 w568 (by decide +kernel) rfl hs (fun v hv => by
    simp only [List.mem_cons, List.not_mem_nil, or_false] at hv
    rcases hv with rfl | rfl <;> first | rfl | assumption) hst h
theorem s66_95 {S : Nat × (Nat → Int32)} {L : List (Option Value)} {st : List Value} {n : Nat} {Q : xQ} {μ : xM} {x : Int32} (hl : L[6]? = some (some (.int x))) (h : x_V S 66 97 L (.int x :: st) μ n Q) : x_V S 66 95 L (st) μ n Q := x_iload d66_95 hl h
theorem s66_97 {S : Nat × (Nat → Int32)} {L : List (Option Value)} {st : List Value} {n : Nat} {Q : xQ} {μ : xM}  (h : x_V S 66 98 L (.int (I 1) :: st) μ n Q) : x_V S 66 97 L (st) μ n Q := x_iconst (by decide +kernel) d66_97 h
theorem s66_98 {S : Nat × (Nat → Int32)} {L : List (Option Value)} {st : List Value} {n : Nat} {Q : xQ} {μ : xM} {x y : Int} (h : x_V S 66 99 L (.int (I (x + y)) :: st) μ n Q) : x_V S 66 98 L (.int (I y) :: .int (I x) :: st) μ n Q := v_iadd d66_98 h
theorem s66_99 {S : Nat × (Nat → Int32)} {L : List (Option Value)} {st : List Value} {n : Nat} {Q : xQ} {μ : xM} {x : Int32} (h : x_V S 66 101 (L.set 4 (some (.int x))) (st) μ n Q) : x_V S 66 99 L (.int x :: st) μ n Q := x_istore d66_99 (by decide) h
theorem s66_101 {S : Nat × (Nat → Int32)} {L : List (Option Value)} {st : List Value} {n : Nat} {Q : xQ} {μ : xM} {x : Int} (hl : L[5]? = some (some (.int (I x)))) (h : x_V S 66 104 (L.set 5 (some (.int (I (x + 1))))) (st) μ n Q) : x_V S 66 101 L (st) μ n Q := v_iinc d66_101 hl (by decide) h
theorem s66_104 {S : Nat × (Nat → Int32)} {L : List (Option Value)} {st : List Value} {n : Nat} {Q : xQ} {μ : xM}  (h : x_V S 66 33 L (st) μ n Q) : x_V S 66 104 L (st) μ n Q := x_goto (tgt := 33) (by decide) d66_104 h
theorem s66_107 {S : Nat × (Nat → Int32)} {L : List (Option Value)} {st : List Value} {n : Nat} {Q : xQ} {μ : xM} {a : Nat} (hl : L[0]? = some (some (.ref a))) (h : x_V S 66 108 L (.ref a :: st) μ n Q) : x_V S 66 107 L (st) μ n Q := x_aload_n d66_107 hl h
theorem s66_107N {S : Nat × (Nat → Int32)} {L : List (Option Value)} {st : List Value} {n : Nat} {Q : xQ} {μ : xM} (hl : L[0]? = some (some .null)) (h : x_V S 66 108 L (.null :: st) μ n Q) : x_V S 66 107 L st μ n Q := x_aload_nN d66_107 hl h
theorem s66_108 {S : Nat × (Nat → Int32)} {L : List (Option Value)} {st : List Value} {n : Nat} {Q : xQ} {μ : xM} {x : Int32} (hl : L[4]? = some (some (.int x))) (h : x_V S 66 110 L (.int x :: st) μ n Q) : x_V S 66 108 L (st) μ n Q := x_iload d66_108 hl h
theorem s66_110 {S : Nat × (Nat → Int32)} {L : List (Option Value)} {st : List Value} {n : Nat} {Q : xQ} {μ : xM} {x : Int32} (hl : L[3]? = some (some (.int x))) (h : x_V S 66 111 L (.int x :: st) μ n Q) : x_V S 66 110 L (st) μ n Q := x_iload_n d66_110 hl h
theorem s66_111 {S : Nat × (Nat → Int32)} {L : List (Option Value)} {st : List Value} {n : Nat} {Q : xQ} {μ : xM}  (h : x_V S 66 112 L (.int (I 1) :: st) μ n Q) : x_V S 66 111 L (st) μ n Q := x_iconst (by decide +kernel) d66_111 h
theorem s66_112 {S : Nat × (Nat → Int32)} {L : List (Option Value)} {st : List Value} {n : Nat} {Q : xQ} {μ : xM} {x y : Int} (h : x_V S 66 113 L (.int (I (x + y)) :: st) μ n Q) : x_V S 66 112 L (.int (I y) :: .int (I x) :: st) μ n Q := v_iadd d66_112 h
theorem s66_113 {S : Nat × (Nat → Int32)} {L : List (Option Value)} {st : List Value} {n : Nat} {Q : xQ} {μ : xM} {x0 : Int32} {x1 : Int32} {a : Nat} (hs : x_sh a = (4, 12)) (hst : st.length ≤ 4) (h : x_V S 67 0 [some (.ref a), some (.int x0), some (.int x1)] [] μ n (x_bk S 66 113 L st Q)) : x_V S 66 113 L (.int x1 :: .int x0 :: .ref a :: st) μ n Q := x_callV (k' := 67) (as := [.int x0, .int x1]) (na := 2) d66_113 ⟨w565, by decide +kernel, by decide, by decide, by decide, by decide, by decide⟩ cf4 w562 w564 wp18 (by decide +kernel) rfl hs (fun v hv => by
    simp only [List.mem_cons, List.not_mem_nil, or_false] at hv
    rcases hv with rfl | rfl <;> first | rfl | assumption) hst h
theorem s66_116 {S : Nat × (Nat → Int32)} {L : List (Option Value)} {st : List Value} {n : Nat} {Q : xQ} {μ : xM}  (h : Q (.inl none) μ n) : x_V S 66 116 L ([]) μ n Q := x_return d66_116 rfl h
theorem mC_67 : mC 67 = prog_9_method_14_code := rfl
theorem d67_0 : decode (mC 67) 0 = .ok (.iload_n 1, 1) := by rw [mC_67]; decide +kernel
theorem d67_1 : decode (mC 67) 1 = .ok (.iload_n 2, 1) := by rw [mC_67]; decide +kernel
theorem d67_2 : decode (mC 67) 2 = .ok (.if_icmp .ge 18, 3) := by rw [mC_67]; decide +kernel
theorem d67_5 : decode (mC 67) 5 = .ok (.aload_n 0, 1) := by rw [mC_67]; decide +kernel
theorem d67_6 : decode (mC 67) 6 = .ok (.bipush 52, 2) := by rw [mC_67]; decide +kernel
theorem d67_8 : decode (mC 67) 8 = .ok (.iload_n 1, 1) := by rw [mC_67]; decide +kernel
theorem d67_9 : decode (mC 67) 9 = .ok (.iconst 1, 1) := by rw [mC_67]; decide +kernel
theorem d67_10 : decode (mC 67) 10 = .ok (.invokevirtual 119, 3) := by rw [mC_67]; decide +kernel
theorem d67_13 : decode (mC 67) 13 = .ok (.iload_n 2, 1) := by rw [mC_67]; decide +kernel
theorem d67_14 : decode (mC 67) 14 = .ok (.iconst 1, 1) := by rw [mC_67]; decide +kernel
theorem d67_15 : decode (mC 67) 15 = .ok (.iconst 0, 1) := by rw [mC_67]; decide +kernel
theorem d67_16 : decode (mC 67) 16 = .ok (.iconst 0, 1) := by rw [mC_67]; decide +kernel
theorem d67_17 : decode (mC 67) 17 = .ok (.invokevirtual 123, 3) := by rw [mC_67]; decide +kernel
theorem d67_20 : decode (mC 67) 20 = .ok (.return_, 1) := by rw [mC_67]; decide +kernel
theorem s67_0 {S : Nat × (Nat → Int32)} {L : List (Option Value)} {st : List Value} {n : Nat} {Q : xQ} {μ : xM} {x : Int32} (hl : L[1]? = some (some (.int x))) (h : x_V S 67 1 L (.int x :: st) μ n Q) : x_V S 67 0 L (st) μ n Q := x_iload_n d67_0 hl h
theorem s67_1 {S : Nat × (Nat → Int32)} {L : List (Option Value)} {st : List Value} {n : Nat} {Q : xQ} {μ : xM} {x : Int32} (hl : L[2]? = some (some (.int x))) (h : x_V S 67 2 L (.int x :: st) μ n Q) : x_V S 67 1 L (st) μ n Q := x_iload_n d67_1 hl h
theorem s67_2 {S : Nat × (Nat → Int32)} {L : List (Option Value)} {st : List Value} {n : Nat} {Q : xQ} {μ : xM} {x y : Int} (hx : ib x) (hy : ib y) (kt : y ≤ x → x_V S 67 20 L (st) μ n Q) (kf : x < y → x_V S 67 5 L (st) μ n Q) : x_V S 67 2 L (.int (I y) :: .int (I x) :: st) μ n Q := v_icmp_ge d67_2 (by decide) hx hy kt kf
theorem s67_5 {S : Nat × (Nat → Int32)} {L : List (Option Value)} {st : List Value} {n : Nat} {Q : xQ} {μ : xM} {a : Nat} (hl : L[0]? = some (some (.ref a))) (h : x_V S 67 6 L (.ref a :: st) μ n Q) : x_V S 67 5 L (st) μ n Q := x_aload_n d67_5 hl h
theorem s67_5N {S : Nat × (Nat → Int32)} {L : List (Option Value)} {st : List Value} {n : Nat} {Q : xQ} {μ : xM} (hl : L[0]? = some (some .null)) (h : x_V S 67 6 L (.null :: st) μ n Q) : x_V S 67 5 L st μ n Q := x_aload_nN d67_5 hl h
theorem s67_6 {S : Nat × (Nat → Int32)} {L : List (Option Value)} {st : List Value} {n : Nat} {Q : xQ} {μ : xM}  (h : x_V S 67 8 L (.int (I 52) :: st) μ n Q) : x_V S 67 6 L (st) μ n Q := x_bipush (by decide +kernel) d67_6 h
theorem s67_8 {S : Nat × (Nat → Int32)} {L : List (Option Value)} {st : List Value} {n : Nat} {Q : xQ} {μ : xM} {x : Int32} (hl : L[1]? = some (some (.int x))) (h : x_V S 67 9 L (.int x :: st) μ n Q) : x_V S 67 8 L (st) μ n Q := x_iload_n d67_8 hl h
theorem s67_9 {S : Nat × (Nat → Int32)} {L : List (Option Value)} {st : List Value} {n : Nat} {Q : xQ} {μ : xM}  (h : x_V S 67 10 L (.int (I 1) :: st) μ n Q) : x_V S 67 9 L (st) μ n Q := x_iconst (by decide +kernel) d67_9 h
theorem s67_10 {S : Nat × (Nat → Int32)} {L : List (Option Value)} {st : List Value} {n : Nat} {Q : xQ} {μ : xM} {x0 : Int32} {x1 : Int32} {x2 : Int32} {a : Nat} (hs : x_sh a = (4, 12)) (hst : st.length ≤ 4) (h : x_V S 68 0 [some (.ref a), some (.int x0), some (.int x1), some (.int x2), none] [] μ n (x_bk S 67 10 L st Q)) : x_V S 67 10 L (.int x2 :: .int x1 :: .int x0 :: .ref a :: st) μ n Q := x_callV (k' := 68) (as := [.int x0, .int x1, .int x2]) (na := 3) d67_10 ⟨w256, by decide +kernel, by decide, by decide, by decide, by decide, by decide⟩ cf4 w253 w255 wp2 (by decide +kernel) rfl hs (fun v hv => by
    simp only [List.mem_cons, List.not_mem_nil, or_false] at hv
    rcases hv with rfl | rfl | rfl <;> first | rfl | assumption) hst h
theorem s67_13 {S : Nat × (Nat → Int32)} {L : List (Option Value)} {st : List Value} {n : Nat} {Q : xQ} {μ : xM} {x : Int32} (hl : L[2]? = some (some (.int x))) (h : x_V S 67 14 L (.int x :: st) μ n Q) : x_V S 67 13 L (st) μ n Q := x_iload_n d67_13 hl h
theorem s67_14 {S : Nat × (Nat → Int32)} {L : List (Option Value)} {st : List Value} {n : Nat} {Q : xQ} {μ : xM}  (h : x_V S 67 15 L (.int (I 1) :: st) μ n Q) : x_V S 67 14 L (st) μ n Q := x_iconst (by decide +kernel) d67_14 h
theorem s67_15 {S : Nat × (Nat → Int32)} {L : List (Option Value)} {st : List Value} {n : Nat} {Q : xQ} {μ : xM}  (h : x_V S 67 16 L (.int (I 0) :: st) μ n Q) : x_V S 67 15 L (st) μ n Q := x_iconst (by decide +kernel) d67_15 h
theorem s67_16 {S : Nat × (Nat → Int32)} {L : List (Option Value)} {st : List Value} {n : Nat} {Q : xQ} {μ : xM}  (h : x_V S 67 17 L (.int (I 0) :: st) μ n Q) : x_V S 67 16 L (st) μ n Q := x_iconst (by decide +kernel) d67_16 h
theorem s67_17 {S : Nat × (Nat → Int32)} {L : List (Option Value)} {st : List Value} {n : Nat} {Q : xQ} {μ : xM} {x0 : Int32} {x1 : Int32} {x2 : Int32} {x3 : Int32} {a : Nat} (hs : x_sh a = (3, 4)) (hst : st.length ≤ 4) (h : x_V S 23 0 [some (.ref a), some (.int x0), some (.int x1), some (.int x2), some (.int x3)] [] μ n (x_bk S 67 17 L st Q)) : x_V S 67 17 L (.int x3 :: .int x2 :: .int x1 :: .int x0 :: .ref a :: st) μ n Q := x_callV (k' := 23) (as := [.int x0, .int x1, .int x2, .int x3]) (na := 4) d67_17 ⟨w268, by decide +kernel, by decide, by decide, by decide, by decide, by decide⟩ cf3 w265 w266 w267 (by decide +kernel) rfl hs (fun v hv => by
    simp only [List.mem_cons, List.not_mem_nil, or_false] at hv
    rcases hv with rfl | rfl | rfl | rfl <;> first | rfl | assumption) hst h
theorem s67_20 {S : Nat × (Nat → Int32)} {L : List (Option Value)} {st : List Value} {n : Nat} {Q : xQ} {μ : xM}  (h : Q (.inl none) μ n) : x_V S 67 20 L ([]) μ n Q := x_return d67_20 rfl h
theorem mC_68 : mC 68 = prog_9_method_15_code := rfl
theorem d68_0 : decode (mC 68) 0 = .ok (.aload_n 0, 1) := by rw [mC_68]; decide +kernel
theorem d68_1 : decode (mC 68) 1 = .ok (.aload_n 0, 1) := by rw [mC_68]; decide +kernel
theorem d68_2 : decode (mC 68) 2 = .ok (.getfield 48, 3) := by rw [mC_68]; decide +kernel
theorem d68_5 : decode (mC 68) 5 = .ok (.putfield 100, 3) := by rw [mC_68]; decide +kernel
theorem d68_8 : decode (mC 68) 8 = .ok (.aload_n 0, 1) := by rw [mC_68]; decide +kernel
theorem d68_9 : decode (mC 68) 9 = .ok (.getfield 12, 3) := by rw [mC_68]; decide +kernel
theorem d68_12 : decode (mC 68) 12 = .ok (.invokevirtual 165, 3) := by rw [mC_68]; decide +kernel
theorem d68_15 : decode (mC 68) 15 = .ok (.astore 4, 2) := by rw [mC_68]; decide +kernel
theorem d68_17 : decode (mC 68) 17 = .ok (.aload 4, 2) := by rw [mC_68]; decide +kernel
theorem d68_19 : decode (mC 68) 19 = .ok (.iload_n 1, 1) := by rw [mC_68]; decide +kernel
theorem d68_20 : decode (mC 68) 20 = .ok (.iload_n 2, 1) := by rw [mC_68]; decide +kernel
theorem d68_21 : decode (mC 68) 21 = .ok (.iload_n 3, 1) := by rw [mC_68]; decide +kernel
theorem d68_22 : decode (mC 68) 22 = .ok (.invokevirtual 169, 3) := by rw [mC_68]; decide +kernel
theorem d68_25 : decode (mC 68) 25 = .ok (.aload 4, 2) := by rw [mC_68]; decide +kernel
theorem d68_27 : decode (mC 68) 27 = .ok (.areturn, 1) := by rw [mC_68]; decide +kernel
theorem s68_0 {S : Nat × (Nat → Int32)} {L : List (Option Value)} {st : List Value} {n : Nat} {Q : xQ} {μ : xM} {a : Nat} (hl : L[0]? = some (some (.ref a))) (h : x_V S 68 1 L (.ref a :: st) μ n Q) : x_V S 68 0 L (st) μ n Q := x_aload_n d68_0 hl h
theorem s68_0N {S : Nat × (Nat → Int32)} {L : List (Option Value)} {st : List Value} {n : Nat} {Q : xQ} {μ : xM} (hl : L[0]? = some (some .null)) (h : x_V S 68 1 L (.null :: st) μ n Q) : x_V S 68 0 L st μ n Q := x_aload_nN d68_0 hl h
theorem s68_1 {S : Nat × (Nat → Int32)} {L : List (Option Value)} {st : List Value} {n : Nat} {Q : xQ} {μ : xM} {a : Nat} (hl : L[0]? = some (some (.ref a))) (h : x_V S 68 2 L (.ref a :: st) μ n Q) : x_V S 68 1 L (st) μ n Q := x_aload_n d68_1 hl h
theorem s68_1N {S : Nat × (Nat → Int32)} {L : List (Option Value)} {st : List Value} {n : Nat} {Q : xQ} {μ : xM} (hl : L[0]? = some (some .null)) (h : x_V S 68 2 L (.null :: st) μ n Q) : x_V S 68 1 L st μ n Q := x_aload_nN d68_1 hl h
theorem s68_2 {S : Nat × (Nat → Int32)} {L : List (Option Value)} {st : List Value} {n : Nat} {Q : xQ} {g : Nat → Nat → Int} {a : Nat} (hs : x_sh a = (4, 12)) (hp : x_pt a 7 = none) (ha : a ≠ x_out) (h : x_V S 68 5 L (.int (I (g a 7)) :: st) (x_vm g) n Q) : x_V S 68 2 L (.ref a :: st) (x_vm g) n Q := v_get (i := 7) cf4 d68_2 (by decide) w191 hs hp ha h
theorem s68_5 {S : Nat × (Nat → Int32)} {L : List (Option Value)} {st : List Value} {n : Nat} {Q : xQ} {g : Nat → Nat → Int} {a : Nat} {x : Int} (hs : x_sh a = (4, 12)) (hp : x_pt a 10 = none) (ha : a ≠ x_out) (h : x_V S 68 8 L (st) (x_vm (x_uf g a 10 x)) n Q) : x_V S 68 5 L (.int (I x) :: .ref a :: st) (x_vm g) n Q := v_put (i := 10) cf4 d68_5 (by decide) rfl w196 hs rfl hp ha h
theorem s68_8 {S : Nat × (Nat → Int32)} {L : List (Option Value)} {st : List Value} {n : Nat} {Q : xQ} {μ : xM} {a : Nat} (hl : L[0]? = some (some (.ref a))) (h : x_V S 68 9 L (.ref a :: st) μ n Q) : x_V S 68 8 L (st) μ n Q := x_aload_n d68_8 hl h
theorem s68_8N {S : Nat × (Nat → Int32)} {L : List (Option Value)} {st : List Value} {n : Nat} {Q : xQ} {μ : xM} (hl : L[0]? = some (some .null)) (h : x_V S 68 9 L (.null :: st) μ n Q) : x_V S 68 8 L st μ n Q := x_aload_nN d68_8 hl h
theorem s68_9 {S : Nat × (Nat → Int32)} {L : List (Option Value)} {st : List Value} {n : Nat} {Q : xQ} {g : Nat → Nat → Int} {a : Nat} {v : Value} (hs : x_sh a = (4, 12)) (hp : x_pt a 0 = some v) (h : x_V S 68 12 L (v :: st) (x_vm g) n Q) : x_V S 68 9 L (.ref a :: st) (x_vm g) n Q := v_getp (i := 0) cf4 d68_9 (by decide) w178 hs hp h
theorem s68_12 {S : Nat × (Nat → Int32)} {L : List (Option Value)} {st : List Value} {n : Nat} {Q : xQ} {μ : xM}  {a : Nat} (hs : x_sh a = (5, 3)) (hst : st.length ≤ 4) (h : x_V S 39 0 [some (.ref a), none] [] μ n (x_bk S 68 12 L st Q)) : x_V S 68 12 L (.ref a :: st) μ n Q := x_callV (k' := 39) (as := []) (na := 0) d68_12 ⟨w260, by decide +kernel, by decide, by decide, by decide, by decide, by decide⟩ cf5 w257 w258 w259 (by decide +kernel) rfl hs (fun v hv => by
    cases hv) hst h
theorem s68_15 {S : Nat × (Nat → Int32)} {L : List (Option Value)} {st : List Value} {n : Nat} {Q : xQ} {μ : xM} {a : Nat} (h : x_V S 68 17 (L.set 4 (some (.ref a))) (st) μ n Q) : x_V S 68 15 L (.ref a :: st) μ n Q := x_astore d68_15 (by decide) h
theorem s68_15N {S : Nat × (Nat → Int32)} {L : List (Option Value)} {st : List Value} {n : Nat} {Q : xQ} {μ : xM} (h : x_V S 68 17 (L.set 4 (some .null)) (st) μ n Q) : x_V S 68 15 L (.null :: st) μ n Q := x_astoreN d68_15 (by decide) h
theorem s68_17 {S : Nat × (Nat → Int32)} {L : List (Option Value)} {st : List Value} {n : Nat} {Q : xQ} {μ : xM} {a : Nat} (hl : L[4]? = some (some (.ref a))) (h : x_V S 68 19 L (.ref a :: st) μ n Q) : x_V S 68 17 L (st) μ n Q := x_aload d68_17 hl h
theorem s68_17N {S : Nat × (Nat → Int32)} {L : List (Option Value)} {st : List Value} {n : Nat} {Q : xQ} {μ : xM} (hl : L[4]? = some (some .null)) (h : x_V S 68 19 L (.null :: st) μ n Q) : x_V S 68 17 L st μ n Q := x_aloadN d68_17 hl h
theorem s68_19 {S : Nat × (Nat → Int32)} {L : List (Option Value)} {st : List Value} {n : Nat} {Q : xQ} {μ : xM} {x : Int32} (hl : L[1]? = some (some (.int x))) (h : x_V S 68 20 L (.int x :: st) μ n Q) : x_V S 68 19 L (st) μ n Q := x_iload_n d68_19 hl h
theorem s68_20 {S : Nat × (Nat → Int32)} {L : List (Option Value)} {st : List Value} {n : Nat} {Q : xQ} {μ : xM} {x : Int32} (hl : L[2]? = some (some (.int x))) (h : x_V S 68 21 L (.int x :: st) μ n Q) : x_V S 68 20 L (st) μ n Q := x_iload_n d68_20 hl h
theorem s68_21 {S : Nat × (Nat → Int32)} {L : List (Option Value)} {st : List Value} {n : Nat} {Q : xQ} {μ : xM} {x : Int32} (hl : L[3]? = some (some (.int x))) (h : x_V S 68 22 L (.int x :: st) μ n Q) : x_V S 68 21 L (st) μ n Q := x_iload_n d68_21 hl h
theorem s68_22 {S : Nat × (Nat → Int32)} {L : List (Option Value)} {st : List Value} {n : Nat} {Q : xQ} {μ : xM} {x0 : Int32} {x1 : Int32} {x2 : Int32} {a : Nat} (hs : x_sh a = (3, 4)) (hst : st.length ≤ 4) (h : x_V S 22 0 [some (.ref a), some (.int x0), some (.int x1), some (.int x2)] [] μ n (x_bk S 68 22 L st Q)) : x_V S 68 22 L (.int x2 :: .int x1 :: .int x0 :: .ref a :: st) μ n Q := x_callV (k' := 22) (as := [.int x0, .int x1, .int x2]) (na := 3) d68_22 ⟨w264, by decide +kernel, by decide, by decide, by decide, by decide, by decide⟩ cf3 w261 w262 w263 (by decide +kernel) rfl hs (fun v hv => by
    simp only [List.mem_cons, List.not_mem_nil, or_false] at hv
    rcases hv with rfl | rfl | rfl <;> first | rfl | assumption) hst h
theorem s68_25 {S : Nat × (Nat → Int32)} {L : List (Option Value)} {st : List Value} {n : Nat} {Q : xQ} {μ : xM} {a : Nat} (hl : L[4]? = some (some (.ref a))) (h : x_V S 68 27 L (.ref a :: st) μ n Q) : x_V S 68 25 L (st) μ n Q := x_aload d68_25 hl h
theorem s68_25N {S : Nat × (Nat → Int32)} {L : List (Option Value)} {st : List Value} {n : Nat} {Q : xQ} {μ : xM} (hl : L[4]? = some (some .null)) (h : x_V S 68 27 L (.null :: st) μ n Q) : x_V S 68 25 L st μ n Q := x_aloadN d68_25 hl h
theorem s68_27 {S : Nat × (Nat → Int32)} {L : List (Option Value)} {st : List Value} {n : Nat} {Q : xQ} {μ : xM} {v : Value} (hv : v = .null ∨ ∃ a, v = .ref a) (h : Q (.inl (some v)) μ n) : x_V S 68 27 L (v :: []) μ n Q := x_areturn d68_27 rfl (Or.inl ⟨_, rfl⟩) hv h
