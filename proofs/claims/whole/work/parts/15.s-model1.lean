/-! 15.s-model1: decode rows and step rows of the reference; laid by a program. -/
theorem mC_83 : mC 83 = prog_12_method_1_code := rfl
theorem d83_0 : decode (mC 83) 0 = .ok (.aload_n 0, 1) := by rw [mC_83]; decide +kernel
theorem d83_1 : decode (mC 83) 1 = .ok (.invokespecial 1, 3) := by rw [mC_83]; decide +kernel
theorem d83_4 : decode (mC 83) 4 = .ok (.aload_n 0, 1) := by rw [mC_83]; decide +kernel
theorem d83_5 : decode (mC 83) 5 = .ok (.bipush 120, 2) := by rw [mC_83]; decide +kernel
theorem d83_7 : decode (mC 83) 7 = .ok (.newarray .int, 2) := by rw [mC_83]; decide +kernel
theorem d83_9 : decode (mC 83) 9 = .ok (.putfield 7, 3) := by rw [mC_83]; decide +kernel
theorem d83_12 : decode (mC 83) 12 = .ok (.aload_n 0, 1) := by rw [mC_83]; decide +kernel
theorem d83_13 : decode (mC 83) 13 = .ok (.bipush 41, 2) := by rw [mC_83]; decide +kernel
theorem d83_15 : decode (mC 83) 15 = .ok (.newarray .int, 2) := by rw [mC_83]; decide +kernel
theorem d83_17 : decode (mC 83) 17 = .ok (.putfield 13, 3) := by rw [mC_83]; decide +kernel
theorem d83_20 : decode (mC 83) 20 = .ok (.aload_n 0, 1) := by rw [mC_83]; decide +kernel
theorem d83_21 : decode (mC 83) 21 = .ok (.bipush 41, 2) := by rw [mC_83]; decide +kernel
theorem d83_23 : decode (mC 83) 23 = .ok (.newarray .int, 2) := by rw [mC_83]; decide +kernel
theorem d83_25 : decode (mC 83) 25 = .ok (.putfield 16, 3) := by rw [mC_83]; decide +kernel
theorem d83_28 : decode (mC 83) 28 = .ok (.aload_n 0, 1) := by rw [mC_83]; decide +kernel
theorem d83_29 : decode (mC 83) 29 = .ok (.bipush 41, 2) := by rw [mC_83]; decide +kernel
theorem d83_31 : decode (mC 83) 31 = .ok (.newarray .int, 2) := by rw [mC_83]; decide +kernel
theorem d83_33 : decode (mC 83) 33 = .ok (.putfield 19, 3) := by rw [mC_83]; decide +kernel
theorem d83_36 : decode (mC 83) 36 = .ok (.aload_n 0, 1) := by rw [mC_83]; decide +kernel
theorem d83_37 : decode (mC 83) 37 = .ok (.sipush 2400, 3) := by rw [mC_83]; decide +kernel
theorem d83_40 : decode (mC 83) 40 = .ok (.newarray .int, 2) := by rw [mC_83]; decide +kernel
theorem d83_42 : decode (mC 83) 42 = .ok (.putfield 22, 3) := by rw [mC_83]; decide +kernel
theorem d83_45 : decode (mC 83) 45 = .ok (.aload_n 0, 1) := by rw [mC_83]; decide +kernel
theorem d83_46 : decode (mC 83) 46 = .ok (.bipush 20, 2) := by rw [mC_83]; decide +kernel
theorem d83_48 : decode (mC 83) 48 = .ok (.newarray .int, 2) := by rw [mC_83]; decide +kernel
theorem d83_50 : decode (mC 83) 50 = .ok (.putfield 25, 3) := by rw [mC_83]; decide +kernel
theorem d83_53 : decode (mC 83) 53 = .ok (.aload_n 0, 1) := by rw [mC_83]; decide +kernel
theorem d83_54 : decode (mC 83) 54 = .ok (.iconst 1, 1) := by rw [mC_83]; decide +kernel
theorem d83_55 : decode (mC 83) 55 = .ok (.putfield 28, 3) := by rw [mC_83]; decide +kernel
theorem d83_58 : decode (mC 83) 58 = .ok (.aload_n 0, 1) := by rw [mC_83]; decide +kernel
theorem d83_59 : decode (mC 83) 59 = .ok (.iconst 1, 1) := by rw [mC_83]; decide +kernel
theorem d83_60 : decode (mC 83) 60 = .ok (.putfield 32, 3) := by rw [mC_83]; decide +kernel
theorem d83_63 : decode (mC 83) 63 = .ok (.aload_n 0, 1) := by rw [mC_83]; decide +kernel
theorem d83_64 : decode (mC 83) 64 = .ok (.sipush 1600, 3) := by rw [mC_83]; decide +kernel
theorem d83_67 : decode (mC 83) 67 = .ok (.newarray .boolean, 2) := by rw [mC_83]; decide +kernel
theorem d83_69 : decode (mC 83) 69 = .ok (.putfield 35, 3) := by rw [mC_83]; decide +kernel
theorem d83_72 : decode (mC 83) 72 = .ok (.aload_n 0, 1) := by rw [mC_83]; decide +kernel
theorem d83_73 : decode (mC 83) 73 = .ok (.sipush 6400, 3) := by rw [mC_83]; decide +kernel
theorem d83_76 : decode (mC 83) 76 = .ok (.newarray .int, 2) := by rw [mC_83]; decide +kernel
theorem d83_78 : decode (mC 83) 78 = .ok (.putfield 39, 3) := by rw [mC_83]; decide +kernel
theorem d83_81 : decode (mC 83) 81 = .ok (.aload_n 0, 1) := by rw [mC_83]; decide +kernel
theorem d83_82 : decode (mC 83) 82 = .ok (.bipush 40, 2) := by rw [mC_83]; decide +kernel
theorem d83_84 : decode (mC 83) 84 = .ok (.newarray .int, 2) := by rw [mC_83]; decide +kernel
theorem d83_86 : decode (mC 83) 86 = .ok (.putfield 42, 3) := by rw [mC_83]; decide +kernel
theorem d83_89 : decode (mC 83) 89 = .ok (.aload_n 0, 1) := by rw [mC_83]; decide +kernel
theorem d83_90 : decode (mC 83) 90 = .ok (.bipush 40, 2) := by rw [mC_83]; decide +kernel
theorem d83_92 : decode (mC 83) 92 = .ok (.newarray .int, 2) := by rw [mC_83]; decide +kernel
theorem d83_94 : decode (mC 83) 94 = .ok (.putfield 45, 3) := by rw [mC_83]; decide +kernel
theorem d83_97 : decode (mC 83) 97 = .ok (.aload_n 0, 1) := by rw [mC_83]; decide +kernel
theorem d83_98 : decode (mC 83) 98 = .ok (.bipush 40, 2) := by rw [mC_83]; decide +kernel
theorem d83_100 : decode (mC 83) 100 = .ok (.newarray .int, 2) := by rw [mC_83]; decide +kernel
theorem d83_102 : decode (mC 83) 102 = .ok (.putfield 48, 3) := by rw [mC_83]; decide +kernel
theorem d83_105 : decode (mC 83) 105 = .ok (.aload_n 0, 1) := by rw [mC_83]; decide +kernel
theorem d83_106 : decode (mC 83) 106 = .ok (.bipush 40, 2) := by rw [mC_83]; decide +kernel
theorem d83_108 : decode (mC 83) 108 = .ok (.newarray .int, 2) := by rw [mC_83]; decide +kernel
theorem d83_110 : decode (mC 83) 110 = .ok (.putfield 51, 3) := by rw [mC_83]; decide +kernel
theorem d83_113 : decode (mC 83) 113 = .ok (.aload_n 0, 1) := by rw [mC_83]; decide +kernel
theorem d83_114 : decode (mC 83) 114 = .ok (.bipush 40, 2) := by rw [mC_83]; decide +kernel
theorem d83_116 : decode (mC 83) 116 = .ok (.newarray .boolean, 2) := by rw [mC_83]; decide +kernel
theorem d83_118 : decode (mC 83) 118 = .ok (.putfield 54, 3) := by rw [mC_83]; decide +kernel
theorem d83_121 : decode (mC 83) 121 = .ok (.aload_n 0, 1) := by rw [mC_83]; decide +kernel
theorem d83_122 : decode (mC 83) 122 = .ok (.sipush 520, 3) := by rw [mC_83]; decide +kernel
theorem d83_125 : decode (mC 83) 125 = .ok (.newarray .int, 2) := by rw [mC_83]; decide +kernel
theorem d83_127 : decode (mC 83) 127 = .ok (.putfield 57, 3) := by rw [mC_83]; decide +kernel
theorem d83_130 : decode (mC 83) 130 = .ok (.return_, 1) := by rw [mC_83]; decide +kernel
theorem s83_0 {S : Nat × (Nat → Int32)} {L : List (Option Value)} {st : List Value} {n : Nat} {Q : xQ} {μ : xM} {a : Nat} (hl : L[0]? = some (some (.ref a))) (h : x_V S 83 1 L (.ref a :: st) μ n Q) : x_V S 83 0 L (st) μ n Q := x_aload_n d83_0 hl h
theorem s83_0N {S : Nat × (Nat → Int32)} {L : List (Option Value)} {st : List Value} {n : Nat} {Q : xQ} {μ : xM} (hl : L[0]? = some (some .null)) (h : x_V S 83 1 L (.null :: st) μ n Q) : x_V S 83 0 L st μ n Q := x_aload_nN d83_0 hl h
theorem s83_1 {S : Nat × (Nat → Int32)} {L : List (Option Value)} {st : List Value} {n : Nat} {Q : xQ} {μ : xM} {a : Nat} (hst : st.length ≤ 4) (h : x_V S 83 4 L (st) μ n Q) : x_V S 83 1 L (.ref a :: st) μ n Q := x_objInit d83_1 w694 w26 w27 ⟨by decide, by decide⟩ hst h
theorem s83_4 {S : Nat × (Nat → Int32)} {L : List (Option Value)} {st : List Value} {n : Nat} {Q : xQ} {μ : xM} {a : Nat} (hl : L[0]? = some (some (.ref a))) (h : x_V S 83 5 L (.ref a :: st) μ n Q) : x_V S 83 4 L (st) μ n Q := x_aload_n d83_4 hl h
theorem s83_4N {S : Nat × (Nat → Int32)} {L : List (Option Value)} {st : List Value} {n : Nat} {Q : xQ} {μ : xM} (hl : L[0]? = some (some .null)) (h : x_V S 83 5 L (.null :: st) μ n Q) : x_V S 83 4 L st μ n Q := x_aload_nN d83_4 hl h
theorem s83_5 {S : Nat × (Nat → Int32)} {L : List (Option Value)} {st : List Value} {n : Nat} {Q : xQ} {μ : xM}  (h : x_V S 83 7 L (.int (I 120) :: st) μ n Q) : x_V S 83 5 L (st) μ n Q := x_bipush (by decide +kernel) d83_5 h
theorem s83_7 {S : Nat × (Nat → Int32)} {L : List (Option Value)} {st : List Value} {n : Nat} {Q : xQ} {μ : xM} {N : Nat} {i : Int32} (hs : x_sh n = (100, N)) (hi : ¬ i < 0) (hN : i.toNatClampNeg = N) (hb : N ≤ 8000) (hn : n < x_NM) (h : x_V S 83 9 L (.ref n :: st) (x_nw μ n (fun _ => defaultValue (x_ty 100))) (n + 1) Q) : x_V S 83 7 L (.int i :: st) μ n Q := x_newa (kd := 100) d83_7 w50 rfl (by decide) hs hi hN (Nat.le_trans (Nat.mul_le_mul_right _ hb) (by decide)) hn h
theorem s83_9 {S : Nat × (Nat → Int32)} {L : List (Option Value)} {st : List Value} {n : Nat} {Q : xQ} {μ : xM} {a b : Nat} (hs : x_sh a = (9, 39)) (h : x_V S 83 12 L (st) (x_up μ a 3 (.ref b)) n Q) : x_V S 83 9 L (.ref b :: .ref a :: st) μ n Q := x_putF (i := 3) cf9 d83_9 (by decide) rfl rfl rfl w698 hs (fun _ => ⟨rfl, rfl⟩) h
theorem s83_12 {S : Nat × (Nat → Int32)} {L : List (Option Value)} {st : List Value} {n : Nat} {Q : xQ} {μ : xM} {a : Nat} (hl : L[0]? = some (some (.ref a))) (h : x_V S 83 13 L (.ref a :: st) μ n Q) : x_V S 83 12 L (st) μ n Q := x_aload_n d83_12 hl h
theorem s83_12N {S : Nat × (Nat → Int32)} {L : List (Option Value)} {st : List Value} {n : Nat} {Q : xQ} {μ : xM} (hl : L[0]? = some (some .null)) (h : x_V S 83 13 L (.null :: st) μ n Q) : x_V S 83 12 L st μ n Q := x_aload_nN d83_12 hl h
theorem s83_13 {S : Nat × (Nat → Int32)} {L : List (Option Value)} {st : List Value} {n : Nat} {Q : xQ} {μ : xM}  (h : x_V S 83 15 L (.int (I 41) :: st) μ n Q) : x_V S 83 13 L (st) μ n Q := x_bipush (by decide +kernel) d83_13 h
theorem s83_15 {S : Nat × (Nat → Int32)} {L : List (Option Value)} {st : List Value} {n : Nat} {Q : xQ} {μ : xM} {N : Nat} {i : Int32} (hs : x_sh n = (100, N)) (hi : ¬ i < 0) (hN : i.toNatClampNeg = N) (hb : N ≤ 8000) (hn : n < x_NM) (h : x_V S 83 17 L (.ref n :: st) (x_nw μ n (fun _ => defaultValue (x_ty 100))) (n + 1) Q) : x_V S 83 15 L (.int i :: st) μ n Q := x_newa (kd := 100) d83_15 w50 rfl (by decide) hs hi hN (Nat.le_trans (Nat.mul_le_mul_right _ hb) (by decide)) hn h
theorem s83_17 {S : Nat × (Nat → Int32)} {L : List (Option Value)} {st : List Value} {n : Nat} {Q : xQ} {μ : xM} {a b : Nat} (hs : x_sh a = (9, 39)) (h : x_V S 83 20 L (st) (x_up μ a 5 (.ref b)) n Q) : x_V S 83 17 L (.ref b :: .ref a :: st) μ n Q := x_putF (i := 5) cf9 d83_17 (by decide) rfl rfl rfl w700 hs (fun _ => ⟨rfl, rfl⟩) h
theorem s83_20 {S : Nat × (Nat → Int32)} {L : List (Option Value)} {st : List Value} {n : Nat} {Q : xQ} {μ : xM} {a : Nat} (hl : L[0]? = some (some (.ref a))) (h : x_V S 83 21 L (.ref a :: st) μ n Q) : x_V S 83 20 L (st) μ n Q := x_aload_n d83_20 hl h
theorem s83_20N {S : Nat × (Nat → Int32)} {L : List (Option Value)} {st : List Value} {n : Nat} {Q : xQ} {μ : xM} (hl : L[0]? = some (some .null)) (h : x_V S 83 21 L (.null :: st) μ n Q) : x_V S 83 20 L st μ n Q := x_aload_nN d83_20 hl h
theorem s83_21 {S : Nat × (Nat → Int32)} {L : List (Option Value)} {st : List Value} {n : Nat} {Q : xQ} {μ : xM}  (h : x_V S 83 23 L (.int (I 41) :: st) μ n Q) : x_V S 83 21 L (st) μ n Q := x_bipush (by decide +kernel) d83_21 h
theorem s83_23 {S : Nat × (Nat → Int32)} {L : List (Option Value)} {st : List Value} {n : Nat} {Q : xQ} {μ : xM} {N : Nat} {i : Int32} (hs : x_sh n = (100, N)) (hi : ¬ i < 0) (hN : i.toNatClampNeg = N) (hb : N ≤ 8000) (hn : n < x_NM) (h : x_V S 83 25 L (.ref n :: st) (x_nw μ n (fun _ => defaultValue (x_ty 100))) (n + 1) Q) : x_V S 83 23 L (.int i :: st) μ n Q := x_newa (kd := 100) d83_23 w50 rfl (by decide) hs hi hN (Nat.le_trans (Nat.mul_le_mul_right _ hb) (by decide)) hn h
theorem s83_25 {S : Nat × (Nat → Int32)} {L : List (Option Value)} {st : List Value} {n : Nat} {Q : xQ} {μ : xM} {a b : Nat} (hs : x_sh a = (9, 39)) (h : x_V S 83 28 L (st) (x_up μ a 6 (.ref b)) n Q) : x_V S 83 25 L (.ref b :: .ref a :: st) μ n Q := x_putF (i := 6) cf9 d83_25 (by decide) rfl rfl rfl w701 hs (fun _ => ⟨rfl, rfl⟩) h
theorem s83_28 {S : Nat × (Nat → Int32)} {L : List (Option Value)} {st : List Value} {n : Nat} {Q : xQ} {μ : xM} {a : Nat} (hl : L[0]? = some (some (.ref a))) (h : x_V S 83 29 L (.ref a :: st) μ n Q) : x_V S 83 28 L (st) μ n Q := x_aload_n d83_28 hl h
theorem s83_28N {S : Nat × (Nat → Int32)} {L : List (Option Value)} {st : List Value} {n : Nat} {Q : xQ} {μ : xM} (hl : L[0]? = some (some .null)) (h : x_V S 83 29 L (.null :: st) μ n Q) : x_V S 83 28 L st μ n Q := x_aload_nN d83_28 hl h
theorem s83_29 {S : Nat × (Nat → Int32)} {L : List (Option Value)} {st : List Value} {n : Nat} {Q : xQ} {μ : xM}  (h : x_V S 83 31 L (.int (I 41) :: st) μ n Q) : x_V S 83 29 L (st) μ n Q := x_bipush (by decide +kernel) d83_29 h
theorem s83_31 {S : Nat × (Nat → Int32)} {L : List (Option Value)} {st : List Value} {n : Nat} {Q : xQ} {μ : xM} {N : Nat} {i : Int32} (hs : x_sh n = (100, N)) (hi : ¬ i < 0) (hN : i.toNatClampNeg = N) (hb : N ≤ 8000) (hn : n < x_NM) (h : x_V S 83 33 L (.ref n :: st) (x_nw μ n (fun _ => defaultValue (x_ty 100))) (n + 1) Q) : x_V S 83 31 L (.int i :: st) μ n Q := x_newa (kd := 100) d83_31 w50 rfl (by decide) hs hi hN (Nat.le_trans (Nat.mul_le_mul_right _ hb) (by decide)) hn h
theorem s83_33 {S : Nat × (Nat → Int32)} {L : List (Option Value)} {st : List Value} {n : Nat} {Q : xQ} {μ : xM} {a b : Nat} (hs : x_sh a = (9, 39)) (h : x_V S 83 36 L (st) (x_up μ a 7 (.ref b)) n Q) : x_V S 83 33 L (.ref b :: .ref a :: st) μ n Q := x_putF (i := 7) cf9 d83_33 (by decide) rfl rfl rfl w702 hs (fun _ => ⟨rfl, rfl⟩) h
theorem s83_36 {S : Nat × (Nat → Int32)} {L : List (Option Value)} {st : List Value} {n : Nat} {Q : xQ} {μ : xM} {a : Nat} (hl : L[0]? = some (some (.ref a))) (h : x_V S 83 37 L (.ref a :: st) μ n Q) : x_V S 83 36 L (st) μ n Q := x_aload_n d83_36 hl h
theorem s83_36N {S : Nat × (Nat → Int32)} {L : List (Option Value)} {st : List Value} {n : Nat} {Q : xQ} {μ : xM} (hl : L[0]? = some (some .null)) (h : x_V S 83 37 L (.null :: st) μ n Q) : x_V S 83 36 L st μ n Q := x_aload_nN d83_36 hl h
theorem s83_37 {S : Nat × (Nat → Int32)} {L : List (Option Value)} {st : List Value} {n : Nat} {Q : xQ} {μ : xM}  (h : x_V S 83 40 L (.int (I 2400) :: st) μ n Q) : x_V S 83 37 L (st) μ n Q := x_sipush (by decide +kernel) d83_37 h
theorem s83_40 {S : Nat × (Nat → Int32)} {L : List (Option Value)} {st : List Value} {n : Nat} {Q : xQ} {μ : xM} {N : Nat} {i : Int32} (hs : x_sh n = (100, N)) (hi : ¬ i < 0) (hN : i.toNatClampNeg = N) (hb : N ≤ 8000) (hn : n < x_NM) (h : x_V S 83 42 L (.ref n :: st) (x_nw μ n (fun _ => defaultValue (x_ty 100))) (n + 1) Q) : x_V S 83 40 L (.int i :: st) μ n Q := x_newa (kd := 100) d83_40 w50 rfl (by decide) hs hi hN (Nat.le_trans (Nat.mul_le_mul_right _ hb) (by decide)) hn h
theorem s83_42 {S : Nat × (Nat → Int32)} {L : List (Option Value)} {st : List Value} {n : Nat} {Q : xQ} {μ : xM} {a b : Nat} (hs : x_sh a = (9, 39)) (h : x_V S 83 45 L (st) (x_up μ a 16 (.ref b)) n Q) : x_V S 83 42 L (.ref b :: .ref a :: st) μ n Q := x_putF (i := 16) cf9 d83_42 (by decide) rfl rfl rfl w711 hs (fun _ => ⟨rfl, rfl⟩) h
theorem s83_45 {S : Nat × (Nat → Int32)} {L : List (Option Value)} {st : List Value} {n : Nat} {Q : xQ} {μ : xM} {a : Nat} (hl : L[0]? = some (some (.ref a))) (h : x_V S 83 46 L (.ref a :: st) μ n Q) : x_V S 83 45 L (st) μ n Q := x_aload_n d83_45 hl h
theorem s83_45N {S : Nat × (Nat → Int32)} {L : List (Option Value)} {st : List Value} {n : Nat} {Q : xQ} {μ : xM} (hl : L[0]? = some (some .null)) (h : x_V S 83 46 L (.null :: st) μ n Q) : x_V S 83 45 L st μ n Q := x_aload_nN d83_45 hl h
theorem s83_46 {S : Nat × (Nat → Int32)} {L : List (Option Value)} {st : List Value} {n : Nat} {Q : xQ} {μ : xM}  (h : x_V S 83 48 L (.int (I 20) :: st) μ n Q) : x_V S 83 46 L (st) μ n Q := x_bipush (by decide +kernel) d83_46 h
theorem s83_48 {S : Nat × (Nat → Int32)} {L : List (Option Value)} {st : List Value} {n : Nat} {Q : xQ} {μ : xM} {N : Nat} {i : Int32} (hs : x_sh n = (100, N)) (hi : ¬ i < 0) (hN : i.toNatClampNeg = N) (hb : N ≤ 8000) (hn : n < x_NM) (h : x_V S 83 50 L (.ref n :: st) (x_nw μ n (fun _ => defaultValue (x_ty 100))) (n + 1) Q) : x_V S 83 48 L (.int i :: st) μ n Q := x_newa (kd := 100) d83_48 w50 rfl (by decide) hs hi hN (Nat.le_trans (Nat.mul_le_mul_right _ hb) (by decide)) hn h
theorem s83_50 {S : Nat × (Nat → Int32)} {L : List (Option Value)} {st : List Value} {n : Nat} {Q : xQ} {μ : xM} {a b : Nat} (hs : x_sh a = (9, 39)) (h : x_V S 83 53 L (st) (x_up μ a 17 (.ref b)) n Q) : x_V S 83 50 L (.ref b :: .ref a :: st) μ n Q := x_putF (i := 17) cf9 d83_50 (by decide) rfl rfl rfl w712 hs (fun _ => ⟨rfl, rfl⟩) h
theorem s83_53 {S : Nat × (Nat → Int32)} {L : List (Option Value)} {st : List Value} {n : Nat} {Q : xQ} {μ : xM} {a : Nat} (hl : L[0]? = some (some (.ref a))) (h : x_V S 83 54 L (.ref a :: st) μ n Q) : x_V S 83 53 L (st) μ n Q := x_aload_n d83_53 hl h
theorem s83_53N {S : Nat × (Nat → Int32)} {L : List (Option Value)} {st : List Value} {n : Nat} {Q : xQ} {μ : xM} (hl : L[0]? = some (some .null)) (h : x_V S 83 54 L (.null :: st) μ n Q) : x_V S 83 53 L st μ n Q := x_aload_nN d83_53 hl h
theorem s83_54 {S : Nat × (Nat → Int32)} {L : List (Option Value)} {st : List Value} {n : Nat} {Q : xQ} {μ : xM}  (h : x_V S 83 55 L (.int (I 1) :: st) μ n Q) : x_V S 83 54 L (st) μ n Q := x_iconst (by decide +kernel) d83_54 h
theorem s83_55 {S : Nat × (Nat → Int32)} {L : List (Option Value)} {st : List Value} {n : Nat} {Q : xQ} {μ : xM} {a : Nat} {x : Int} (hs : x_sh a = (9, 39)) (h : x_V S 83 58 L (st) (x_up μ a 20 (.int (I x))) n Q) : x_V S 83 55 L (.int (I x) :: .ref a :: st) μ n Q := x_put (i := 20) cf9 d83_55 (by decide) rfl w715 hs (fun _ => ⟨rfl, rfl⟩) h
theorem s83_58 {S : Nat × (Nat → Int32)} {L : List (Option Value)} {st : List Value} {n : Nat} {Q : xQ} {μ : xM} {a : Nat} (hl : L[0]? = some (some (.ref a))) (h : x_V S 83 59 L (.ref a :: st) μ n Q) : x_V S 83 58 L (st) μ n Q := x_aload_n d83_58 hl h
theorem s83_58N {S : Nat × (Nat → Int32)} {L : List (Option Value)} {st : List Value} {n : Nat} {Q : xQ} {μ : xM} (hl : L[0]? = some (some .null)) (h : x_V S 83 59 L (.null :: st) μ n Q) : x_V S 83 58 L st μ n Q := x_aload_nN d83_58 hl h
theorem s83_59 {S : Nat × (Nat → Int32)} {L : List (Option Value)} {st : List Value} {n : Nat} {Q : xQ} {μ : xM}  (h : x_V S 83 60 L (.int (I 1) :: st) μ n Q) : x_V S 83 59 L (st) μ n Q := x_iconst (by decide +kernel) d83_59 h
theorem s83_60 {S : Nat × (Nat → Int32)} {L : List (Option Value)} {st : List Value} {n : Nat} {Q : xQ} {μ : xM} {a : Nat} {x : Int} (hs : x_sh a = (9, 39)) (h : x_V S 83 63 L (st) (x_up μ a 21 (.int (I x))) n Q) : x_V S 83 60 L (.int (I x) :: .ref a :: st) μ n Q := x_put (i := 21) cf9 d83_60 (by decide) rfl w716 hs (fun _ => ⟨rfl, rfl⟩) h
theorem s83_63 {S : Nat × (Nat → Int32)} {L : List (Option Value)} {st : List Value} {n : Nat} {Q : xQ} {μ : xM} {a : Nat} (hl : L[0]? = some (some (.ref a))) (h : x_V S 83 64 L (.ref a :: st) μ n Q) : x_V S 83 63 L (st) μ n Q := x_aload_n d83_63 hl h
theorem s83_63N {S : Nat × (Nat → Int32)} {L : List (Option Value)} {st : List Value} {n : Nat} {Q : xQ} {μ : xM} (hl : L[0]? = some (some .null)) (h : x_V S 83 64 L (.null :: st) μ n Q) : x_V S 83 63 L st μ n Q := x_aload_nN d83_63 hl h
theorem s83_64 {S : Nat × (Nat → Int32)} {L : List (Option Value)} {st : List Value} {n : Nat} {Q : xQ} {μ : xM}  (h : x_V S 83 67 L (.int (I 1600) :: st) μ n Q) : x_V S 83 64 L (st) μ n Q := x_sipush (by decide +kernel) d83_64 h
theorem s83_67 {S : Nat × (Nat → Int32)} {L : List (Option Value)} {st : List Value} {n : Nat} {Q : xQ} {μ : xM} {N : Nat} {i : Int32} (hs : x_sh n = (101, N)) (hi : ¬ i < 0) (hN : i.toNatClampNeg = N) (hb : N ≤ 8000) (hn : n < x_NM) (h : x_V S 83 69 L (.ref n :: st) (x_nw μ n (fun _ => defaultValue (x_ty 101))) (n + 1) Q) : x_V S 83 67 L (.int i :: st) μ n Q := x_newa (kd := 101) d83_67 w813 rfl (by decide) hs hi hN (Nat.le_trans (Nat.mul_le_mul_right _ hb) (by decide)) hn h
theorem s83_69 {S : Nat × (Nat → Int32)} {L : List (Option Value)} {st : List Value} {n : Nat} {Q : xQ} {μ : xM} {a b : Nat} (hs : x_sh a = (9, 39)) (h : x_V S 83 72 L (st) (x_up μ a 27 (.ref b)) n Q) : x_V S 83 69 L (.ref b :: .ref a :: st) μ n Q := x_putF (i := 27) cf9 d83_69 (by decide) rfl rfl rfl w722 hs (fun _ => ⟨rfl, rfl⟩) h
theorem s83_72 {S : Nat × (Nat → Int32)} {L : List (Option Value)} {st : List Value} {n : Nat} {Q : xQ} {μ : xM} {a : Nat} (hl : L[0]? = some (some (.ref a))) (h : x_V S 83 73 L (.ref a :: st) μ n Q) : x_V S 83 72 L (st) μ n Q := x_aload_n d83_72 hl h
theorem s83_72N {S : Nat × (Nat → Int32)} {L : List (Option Value)} {st : List Value} {n : Nat} {Q : xQ} {μ : xM} (hl : L[0]? = some (some .null)) (h : x_V S 83 73 L (.null :: st) μ n Q) : x_V S 83 72 L st μ n Q := x_aload_nN d83_72 hl h
theorem s83_73 {S : Nat × (Nat → Int32)} {L : List (Option Value)} {st : List Value} {n : Nat} {Q : xQ} {μ : xM}  (h : x_V S 83 76 L (.int (I 6400) :: st) μ n Q) : x_V S 83 73 L (st) μ n Q := x_sipush (by decide +kernel) d83_73 h
theorem s83_76 {S : Nat × (Nat → Int32)} {L : List (Option Value)} {st : List Value} {n : Nat} {Q : xQ} {μ : xM} {N : Nat} {i : Int32} (hs : x_sh n = (100, N)) (hi : ¬ i < 0) (hN : i.toNatClampNeg = N) (hb : N ≤ 8000) (hn : n < x_NM) (h : x_V S 83 78 L (.ref n :: st) (x_nw μ n (fun _ => defaultValue (x_ty 100))) (n + 1) Q) : x_V S 83 76 L (.int i :: st) μ n Q := x_newa (kd := 100) d83_76 w50 rfl (by decide) hs hi hN (Nat.le_trans (Nat.mul_le_mul_right _ hb) (by decide)) hn h
theorem s83_78 {S : Nat × (Nat → Int32)} {L : List (Option Value)} {st : List Value} {n : Nat} {Q : xQ} {μ : xM} {a b : Nat} (hs : x_sh a = (9, 39)) (h : x_V S 83 81 L (st) (x_up μ a 28 (.ref b)) n Q) : x_V S 83 78 L (.ref b :: .ref a :: st) μ n Q := x_putF (i := 28) cf9 d83_78 (by decide) rfl rfl rfl w723 hs (fun _ => ⟨rfl, rfl⟩) h
theorem s83_81 {S : Nat × (Nat → Int32)} {L : List (Option Value)} {st : List Value} {n : Nat} {Q : xQ} {μ : xM} {a : Nat} (hl : L[0]? = some (some (.ref a))) (h : x_V S 83 82 L (.ref a :: st) μ n Q) : x_V S 83 81 L (st) μ n Q := x_aload_n d83_81 hl h
theorem s83_81N {S : Nat × (Nat → Int32)} {L : List (Option Value)} {st : List Value} {n : Nat} {Q : xQ} {μ : xM} (hl : L[0]? = some (some .null)) (h : x_V S 83 82 L (.null :: st) μ n Q) : x_V S 83 81 L st μ n Q := x_aload_nN d83_81 hl h
theorem s83_82 {S : Nat × (Nat → Int32)} {L : List (Option Value)} {st : List Value} {n : Nat} {Q : xQ} {μ : xM}  (h : x_V S 83 84 L (.int (I 40) :: st) μ n Q) : x_V S 83 82 L (st) μ n Q := x_bipush (by decide +kernel) d83_82 h
theorem s83_84 {S : Nat × (Nat → Int32)} {L : List (Option Value)} {st : List Value} {n : Nat} {Q : xQ} {μ : xM} {N : Nat} {i : Int32} (hs : x_sh n = (100, N)) (hi : ¬ i < 0) (hN : i.toNatClampNeg = N) (hb : N ≤ 8000) (hn : n < x_NM) (h : x_V S 83 86 L (.ref n :: st) (x_nw μ n (fun _ => defaultValue (x_ty 100))) (n + 1) Q) : x_V S 83 84 L (.int i :: st) μ n Q := x_newa (kd := 100) d83_84 w50 rfl (by decide) hs hi hN (Nat.le_trans (Nat.mul_le_mul_right _ hb) (by decide)) hn h
theorem s83_86 {S : Nat × (Nat → Int32)} {L : List (Option Value)} {st : List Value} {n : Nat} {Q : xQ} {μ : xM} {a b : Nat} (hs : x_sh a = (9, 39)) (h : x_V S 83 89 L (st) (x_up μ a 30 (.ref b)) n Q) : x_V S 83 86 L (.ref b :: .ref a :: st) μ n Q := x_putF (i := 30) cf9 d83_86 (by decide) rfl rfl rfl w725 hs (fun _ => ⟨rfl, rfl⟩) h
theorem s83_89 {S : Nat × (Nat → Int32)} {L : List (Option Value)} {st : List Value} {n : Nat} {Q : xQ} {μ : xM} {a : Nat} (hl : L[0]? = some (some (.ref a))) (h : x_V S 83 90 L (.ref a :: st) μ n Q) : x_V S 83 89 L (st) μ n Q := x_aload_n d83_89 hl h
theorem s83_89N {S : Nat × (Nat → Int32)} {L : List (Option Value)} {st : List Value} {n : Nat} {Q : xQ} {μ : xM} (hl : L[0]? = some (some .null)) (h : x_V S 83 90 L (.null :: st) μ n Q) : x_V S 83 89 L st μ n Q := x_aload_nN d83_89 hl h
theorem s83_90 {S : Nat × (Nat → Int32)} {L : List (Option Value)} {st : List Value} {n : Nat} {Q : xQ} {μ : xM}  (h : x_V S 83 92 L (.int (I 40) :: st) μ n Q) : x_V S 83 90 L (st) μ n Q := x_bipush (by decide +kernel) d83_90 h
theorem s83_92 {S : Nat × (Nat → Int32)} {L : List (Option Value)} {st : List Value} {n : Nat} {Q : xQ} {μ : xM} {N : Nat} {i : Int32} (hs : x_sh n = (100, N)) (hi : ¬ i < 0) (hN : i.toNatClampNeg = N) (hb : N ≤ 8000) (hn : n < x_NM) (h : x_V S 83 94 L (.ref n :: st) (x_nw μ n (fun _ => defaultValue (x_ty 100))) (n + 1) Q) : x_V S 83 92 L (.int i :: st) μ n Q := x_newa (kd := 100) d83_92 w50 rfl (by decide) hs hi hN (Nat.le_trans (Nat.mul_le_mul_right _ hb) (by decide)) hn h
theorem s83_94 {S : Nat × (Nat → Int32)} {L : List (Option Value)} {st : List Value} {n : Nat} {Q : xQ} {μ : xM} {a b : Nat} (hs : x_sh a = (9, 39)) (h : x_V S 83 97 L (st) (x_up μ a 31 (.ref b)) n Q) : x_V S 83 94 L (.ref b :: .ref a :: st) μ n Q := x_putF (i := 31) cf9 d83_94 (by decide) rfl rfl rfl w726 hs (fun _ => ⟨rfl, rfl⟩) h
theorem s83_97 {S : Nat × (Nat → Int32)} {L : List (Option Value)} {st : List Value} {n : Nat} {Q : xQ} {μ : xM} {a : Nat} (hl : L[0]? = some (some (.ref a))) (h : x_V S 83 98 L (.ref a :: st) μ n Q) : x_V S 83 97 L (st) μ n Q := x_aload_n d83_97 hl h
theorem s83_97N {S : Nat × (Nat → Int32)} {L : List (Option Value)} {st : List Value} {n : Nat} {Q : xQ} {μ : xM} (hl : L[0]? = some (some .null)) (h : x_V S 83 98 L (.null :: st) μ n Q) : x_V S 83 97 L st μ n Q := x_aload_nN d83_97 hl h
theorem s83_98 {S : Nat × (Nat → Int32)} {L : List (Option Value)} {st : List Value} {n : Nat} {Q : xQ} {μ : xM}  (h : x_V S 83 100 L (.int (I 40) :: st) μ n Q) : x_V S 83 98 L (st) μ n Q := x_bipush (by decide +kernel) d83_98 h
theorem s83_100 {S : Nat × (Nat → Int32)} {L : List (Option Value)} {st : List Value} {n : Nat} {Q : xQ} {μ : xM} {N : Nat} {i : Int32} (hs : x_sh n = (100, N)) (hi : ¬ i < 0) (hN : i.toNatClampNeg = N) (hb : N ≤ 8000) (hn : n < x_NM) (h : x_V S 83 102 L (.ref n :: st) (x_nw μ n (fun _ => defaultValue (x_ty 100))) (n + 1) Q) : x_V S 83 100 L (.int i :: st) μ n Q := x_newa (kd := 100) d83_100 w50 rfl (by decide) hs hi hN (Nat.le_trans (Nat.mul_le_mul_right _ hb) (by decide)) hn h
theorem s83_102 {S : Nat × (Nat → Int32)} {L : List (Option Value)} {st : List Value} {n : Nat} {Q : xQ} {μ : xM} {a b : Nat} (hs : x_sh a = (9, 39)) (h : x_V S 83 105 L (st) (x_up μ a 32 (.ref b)) n Q) : x_V S 83 102 L (.ref b :: .ref a :: st) μ n Q := x_putF (i := 32) cf9 d83_102 (by decide) rfl rfl rfl w727 hs (fun _ => ⟨rfl, rfl⟩) h
theorem s83_105 {S : Nat × (Nat → Int32)} {L : List (Option Value)} {st : List Value} {n : Nat} {Q : xQ} {μ : xM} {a : Nat} (hl : L[0]? = some (some (.ref a))) (h : x_V S 83 106 L (.ref a :: st) μ n Q) : x_V S 83 105 L (st) μ n Q := x_aload_n d83_105 hl h
theorem s83_105N {S : Nat × (Nat → Int32)} {L : List (Option Value)} {st : List Value} {n : Nat} {Q : xQ} {μ : xM} (hl : L[0]? = some (some .null)) (h : x_V S 83 106 L (.null :: st) μ n Q) : x_V S 83 105 L st μ n Q := x_aload_nN d83_105 hl h
theorem s83_106 {S : Nat × (Nat → Int32)} {L : List (Option Value)} {st : List Value} {n : Nat} {Q : xQ} {μ : xM}  (h : x_V S 83 108 L (.int (I 40) :: st) μ n Q) : x_V S 83 106 L (st) μ n Q := x_bipush (by decide +kernel) d83_106 h
theorem s83_108 {S : Nat × (Nat → Int32)} {L : List (Option Value)} {st : List Value} {n : Nat} {Q : xQ} {μ : xM} {N : Nat} {i : Int32} (hs : x_sh n = (100, N)) (hi : ¬ i < 0) (hN : i.toNatClampNeg = N) (hb : N ≤ 8000) (hn : n < x_NM) (h : x_V S 83 110 L (.ref n :: st) (x_nw μ n (fun _ => defaultValue (x_ty 100))) (n + 1) Q) : x_V S 83 108 L (.int i :: st) μ n Q := x_newa (kd := 100) d83_108 w50 rfl (by decide) hs hi hN (Nat.le_trans (Nat.mul_le_mul_right _ hb) (by decide)) hn h
theorem s83_110 {S : Nat × (Nat → Int32)} {L : List (Option Value)} {st : List Value} {n : Nat} {Q : xQ} {μ : xM} {a b : Nat} (hs : x_sh a = (9, 39)) (h : x_V S 83 113 L (st) (x_up μ a 33 (.ref b)) n Q) : x_V S 83 110 L (.ref b :: .ref a :: st) μ n Q := x_putF (i := 33) cf9 d83_110 (by decide) rfl rfl rfl w728 hs (fun _ => ⟨rfl, rfl⟩) h
theorem s83_113 {S : Nat × (Nat → Int32)} {L : List (Option Value)} {st : List Value} {n : Nat} {Q : xQ} {μ : xM} {a : Nat} (hl : L[0]? = some (some (.ref a))) (h : x_V S 83 114 L (.ref a :: st) μ n Q) : x_V S 83 113 L (st) μ n Q := x_aload_n d83_113 hl h
theorem s83_113N {S : Nat × (Nat → Int32)} {L : List (Option Value)} {st : List Value} {n : Nat} {Q : xQ} {μ : xM} (hl : L[0]? = some (some .null)) (h : x_V S 83 114 L (.null :: st) μ n Q) : x_V S 83 113 L st μ n Q := x_aload_nN d83_113 hl h
theorem s83_114 {S : Nat × (Nat → Int32)} {L : List (Option Value)} {st : List Value} {n : Nat} {Q : xQ} {μ : xM}  (h : x_V S 83 116 L (.int (I 40) :: st) μ n Q) : x_V S 83 114 L (st) μ n Q := x_bipush (by decide +kernel) d83_114 h
theorem s83_116 {S : Nat × (Nat → Int32)} {L : List (Option Value)} {st : List Value} {n : Nat} {Q : xQ} {μ : xM} {N : Nat} {i : Int32} (hs : x_sh n = (101, N)) (hi : ¬ i < 0) (hN : i.toNatClampNeg = N) (hb : N ≤ 8000) (hn : n < x_NM) (h : x_V S 83 118 L (.ref n :: st) (x_nw μ n (fun _ => defaultValue (x_ty 101))) (n + 1) Q) : x_V S 83 116 L (.int i :: st) μ n Q := x_newa (kd := 101) d83_116 w813 rfl (by decide) hs hi hN (Nat.le_trans (Nat.mul_le_mul_right _ hb) (by decide)) hn h
theorem s83_118 {S : Nat × (Nat → Int32)} {L : List (Option Value)} {st : List Value} {n : Nat} {Q : xQ} {μ : xM} {a b : Nat} (hs : x_sh a = (9, 39)) (h : x_V S 83 121 L (st) (x_up μ a 34 (.ref b)) n Q) : x_V S 83 118 L (.ref b :: .ref a :: st) μ n Q := x_putF (i := 34) cf9 d83_118 (by decide) rfl rfl rfl w729 hs (fun _ => ⟨rfl, rfl⟩) h
theorem s83_121 {S : Nat × (Nat → Int32)} {L : List (Option Value)} {st : List Value} {n : Nat} {Q : xQ} {μ : xM} {a : Nat} (hl : L[0]? = some (some (.ref a))) (h : x_V S 83 122 L (.ref a :: st) μ n Q) : x_V S 83 121 L (st) μ n Q := x_aload_n d83_121 hl h
theorem s83_121N {S : Nat × (Nat → Int32)} {L : List (Option Value)} {st : List Value} {n : Nat} {Q : xQ} {μ : xM} (hl : L[0]? = some (some .null)) (h : x_V S 83 122 L (.null :: st) μ n Q) : x_V S 83 121 L st μ n Q := x_aload_nN d83_121 hl h
theorem s83_122 {S : Nat × (Nat → Int32)} {L : List (Option Value)} {st : List Value} {n : Nat} {Q : xQ} {μ : xM}  (h : x_V S 83 125 L (.int (I 520) :: st) μ n Q) : x_V S 83 122 L (st) μ n Q := x_sipush (by decide +kernel) d83_122 h
theorem s83_125 {S : Nat × (Nat → Int32)} {L : List (Option Value)} {st : List Value} {n : Nat} {Q : xQ} {μ : xM} {N : Nat} {i : Int32} (hs : x_sh n = (100, N)) (hi : ¬ i < 0) (hN : i.toNatClampNeg = N) (hb : N ≤ 8000) (hn : n < x_NM) (h : x_V S 83 127 L (.ref n :: st) (x_nw μ n (fun _ => defaultValue (x_ty 100))) (n + 1) Q) : x_V S 83 125 L (.int i :: st) μ n Q := x_newa (kd := 100) d83_125 w50 rfl (by decide) hs hi hN (Nat.le_trans (Nat.mul_le_mul_right _ hb) (by decide)) hn h
theorem s83_127 {S : Nat × (Nat → Int32)} {L : List (Option Value)} {st : List Value} {n : Nat} {Q : xQ} {μ : xM} {a b : Nat} (hs : x_sh a = (9, 39)) (h : x_V S 83 130 L (st) (x_up μ a 37 (.ref b)) n Q) : x_V S 83 127 L (.ref b :: .ref a :: st) μ n Q := x_putF (i := 37) cf9 d83_127 (by decide) rfl rfl rfl w732 hs (fun _ => ⟨rfl, rfl⟩) h
theorem s83_130 {S : Nat × (Nat → Int32)} {L : List (Option Value)} {st : List Value} {n : Nat} {Q : xQ} {μ : xM}  (h : Q (.inl none) μ n) : x_V S 83 130 L ([]) μ n Q := x_return d83_130 rfl h
theorem mC_84 : mC 84 = prog_12_method_2_code := rfl
theorem d84_0 : decode (mC 84) 0 = .ok (.aload_n 0, 1) := by rw [mC_84]; decide +kernel
theorem d84_1 : decode (mC 84) 1 = .ok (.getfield 60, 3) := by rw [mC_84]; decide +kernel
theorem d84_4 : decode (mC 84) 4 = .ok (.ireturn, 1) := by rw [mC_84]; decide +kernel
theorem s84_0 {S : Nat × (Nat → Int32)} {L : List (Option Value)} {st : List Value} {n : Nat} {Q : xQ} {μ : xM} {a : Nat} (hl : L[0]? = some (some (.ref a))) (h : x_V S 84 1 L (.ref a :: st) μ n Q) : x_V S 84 0 L (st) μ n Q := x_aload_n d84_0 hl h
theorem s84_0N {S : Nat × (Nat → Int32)} {L : List (Option Value)} {st : List Value} {n : Nat} {Q : xQ} {μ : xM} (hl : L[0]? = some (some .null)) (h : x_V S 84 1 L (.null :: st) μ n Q) : x_V S 84 0 L st μ n Q := x_aload_nN d84_0 hl h
theorem s84_1 {S : Nat × (Nat → Int32)} {L : List (Option Value)} {st : List Value} {n : Nat} {Q : xQ} {g : Nat → Nat → Int} {a : Nat} (hs : x_sh a = (9, 39)) (hp : x_pt a 0 = none) (ha : a ≠ x_out) (h : x_V S 84 4 L (.int (I (g a 0)) :: st) (x_vm g) n Q) : x_V S 84 1 L (.ref a :: st) (x_vm g) n Q := v_get (i := 0) cf9 d84_1 (by decide) w695 hs hp ha h
theorem s84_4 {S : Nat × (Nat → Int32)} {L : List (Option Value)} {st : List Value} {n : Nat} {Q : xQ} {μ : xM} {x : Int32} (h : Q (.inl (some (.int x))) μ n) : x_V S 84 4 L (.int x :: []) μ n Q := x_ireturn d84_4 rfl rfl h
theorem mC_85 : mC 85 = prog_12_method_3_code := rfl
theorem d85_0 : decode (mC 85) 0 = .ok (.aload_n 0, 1) := by rw [mC_85]; decide +kernel
theorem d85_1 : decode (mC 85) 1 = .ok (.iload_n 1, 1) := by rw [mC_85]; decide +kernel
theorem d85_2 : decode (mC 85) 2 = .ok (.putfield 60, 3) := by rw [mC_85]; decide +kernel
theorem d85_5 : decode (mC 85) 5 = .ok (.iconst 0, 1) := by rw [mC_85]; decide +kernel
theorem d85_6 : decode (mC 85) 6 = .ok (.ireturn, 1) := by rw [mC_85]; decide +kernel
theorem s85_0 {S : Nat × (Nat → Int32)} {L : List (Option Value)} {st : List Value} {n : Nat} {Q : xQ} {μ : xM} {a : Nat} (hl : L[0]? = some (some (.ref a))) (h : x_V S 85 1 L (.ref a :: st) μ n Q) : x_V S 85 0 L (st) μ n Q := x_aload_n d85_0 hl h
theorem s85_0N {S : Nat × (Nat → Int32)} {L : List (Option Value)} {st : List Value} {n : Nat} {Q : xQ} {μ : xM} (hl : L[0]? = some (some .null)) (h : x_V S 85 1 L (.null :: st) μ n Q) : x_V S 85 0 L st μ n Q := x_aload_nN d85_0 hl h
theorem s85_1 {S : Nat × (Nat → Int32)} {L : List (Option Value)} {st : List Value} {n : Nat} {Q : xQ} {μ : xM} {x : Int32} (hl : L[1]? = some (some (.int x))) (h : x_V S 85 2 L (.int x :: st) μ n Q) : x_V S 85 1 L (st) μ n Q := x_iload_n d85_1 hl h
theorem s85_2 {S : Nat × (Nat → Int32)} {L : List (Option Value)} {st : List Value} {n : Nat} {Q : xQ} {g : Nat → Nat → Int} {a : Nat} {x : Int} (hs : x_sh a = (9, 39)) (hp : x_pt a 0 = none) (ha : a ≠ x_out) (h : x_V S 85 5 L (st) (x_vm (x_uf g a 0 x)) n Q) : x_V S 85 2 L (.int (I x) :: .ref a :: st) (x_vm g) n Q := v_put (i := 0) cf9 d85_2 (by decide) rfl w695 hs rfl hp ha h
theorem s85_5 {S : Nat × (Nat → Int32)} {L : List (Option Value)} {st : List Value} {n : Nat} {Q : xQ} {μ : xM}  (h : x_V S 85 6 L (.int (I 0) :: st) μ n Q) : x_V S 85 5 L (st) μ n Q := x_iconst (by decide +kernel) d85_5 h
theorem s85_6 {S : Nat × (Nat → Int32)} {L : List (Option Value)} {st : List Value} {n : Nat} {Q : xQ} {μ : xM} {x : Int32} (h : Q (.inl (some (.int x))) μ n) : x_V S 85 6 L (.int x :: []) μ n Q := x_ireturn d85_6 rfl rfl h
theorem mC_86 : mC 86 = prog_12_method_4_code := rfl
theorem d86_0 : decode (mC 86) 0 = .ok (.iload_n 0, 1) := by rw [mC_86]; decide +kernel
theorem d86_1 : decode (mC 86) 1 = .ok (.iload_n 1, 1) := by rw [mC_86]; decide +kernel
theorem d86_2 : decode (mC 86) 2 = .ok (.if_icmp .lt 12, 3) := by rw [mC_86]; decide +kernel
theorem d86_5 : decode (mC 86) 5 = .ok (.iload_n 0, 1) := by rw [mC_86]; decide +kernel
theorem d86_6 : decode (mC 86) 6 = .ok (.iload_n 2, 1) := by rw [mC_86]; decide +kernel
theorem d86_7 : decode (mC 86) 7 = .ok (.if_icmp .gt 7, 3) := by rw [mC_86]; decide +kernel
theorem d86_10 : decode (mC 86) 10 = .ok (.iconst 1, 1) := by rw [mC_86]; decide +kernel
theorem d86_11 : decode (mC 86) 11 = .ok (.goto 4, 3) := by rw [mC_86]; decide +kernel
theorem d86_14 : decode (mC 86) 14 = .ok (.iconst 0, 1) := by rw [mC_86]; decide +kernel
theorem d86_15 : decode (mC 86) 15 = .ok (.ireturn, 1) := by rw [mC_86]; decide +kernel
theorem s86_0 {S : Nat × (Nat → Int32)} {L : List (Option Value)} {st : List Value} {n : Nat} {Q : xQ} {μ : xM} {x : Int32} (hl : L[0]? = some (some (.int x))) (h : x_V S 86 1 L (.int x :: st) μ n Q) : x_V S 86 0 L (st) μ n Q := x_iload_n d86_0 hl h
theorem s86_1 {S : Nat × (Nat → Int32)} {L : List (Option Value)} {st : List Value} {n : Nat} {Q : xQ} {μ : xM} {x : Int32} (hl : L[1]? = some (some (.int x))) (h : x_V S 86 2 L (.int x :: st) μ n Q) : x_V S 86 1 L (st) μ n Q := x_iload_n d86_1 hl h
theorem s86_2 {S : Nat × (Nat → Int32)} {L : List (Option Value)} {st : List Value} {n : Nat} {Q : xQ} {μ : xM} {x y : Int} (hx : ib x) (hy : ib y) (kt : x < y → x_V S 86 14 L (st) μ n Q) (kf : y ≤ x → x_V S 86 5 L (st) μ n Q) : x_V S 86 2 L (.int (I y) :: .int (I x) :: st) μ n Q := v_icmp_lt d86_2 (by decide) hx hy kt kf
theorem s86_5 {S : Nat × (Nat → Int32)} {L : List (Option Value)} {st : List Value} {n : Nat} {Q : xQ} {μ : xM} {x : Int32} (hl : L[0]? = some (some (.int x))) (h : x_V S 86 6 L (.int x :: st) μ n Q) : x_V S 86 5 L (st) μ n Q := x_iload_n d86_5 hl h
theorem s86_6 {S : Nat × (Nat → Int32)} {L : List (Option Value)} {st : List Value} {n : Nat} {Q : xQ} {μ : xM} {x : Int32} (hl : L[2]? = some (some (.int x))) (h : x_V S 86 7 L (.int x :: st) μ n Q) : x_V S 86 6 L (st) μ n Q := x_iload_n d86_6 hl h
theorem s86_7 {S : Nat × (Nat → Int32)} {L : List (Option Value)} {st : List Value} {n : Nat} {Q : xQ} {μ : xM} {x y : Int} (hx : ib x) (hy : ib y) (kt : y < x → x_V S 86 14 L (st) μ n Q) (kf : x ≤ y → x_V S 86 10 L (st) μ n Q) : x_V S 86 7 L (.int (I y) :: .int (I x) :: st) μ n Q := v_icmp_gt d86_7 (by decide) hx hy kt kf
theorem s86_10 {S : Nat × (Nat → Int32)} {L : List (Option Value)} {st : List Value} {n : Nat} {Q : xQ} {μ : xM}  (h : x_V S 86 11 L (.int (I 1) :: st) μ n Q) : x_V S 86 10 L (st) μ n Q := x_iconst (by decide +kernel) d86_10 h
theorem s86_11 {S : Nat × (Nat → Int32)} {L : List (Option Value)} {st : List Value} {n : Nat} {Q : xQ} {μ : xM}  (h : x_V S 86 15 L (st) μ n Q) : x_V S 86 11 L (st) μ n Q := x_goto (tgt := 15) (by decide) d86_11 h
theorem s86_14 {S : Nat × (Nat → Int32)} {L : List (Option Value)} {st : List Value} {n : Nat} {Q : xQ} {μ : xM}  (h : x_V S 86 15 L (.int (I 0) :: st) μ n Q) : x_V S 86 14 L (st) μ n Q := x_iconst (by decide +kernel) d86_14 h
theorem s86_15 {S : Nat × (Nat → Int32)} {L : List (Option Value)} {st : List Value} {n : Nat} {Q : xQ} {μ : xM} {v : Int} (hv : v = 0 ∨ v = 1) (h : Q (.inl (some (.int (I v)))) μ n) : x_V S 86 15 L (.int (I v) :: []) μ n Q := v_zreturn d86_15 rfl hv h
theorem mC_87 : mC 87 = prog_12_method_5_code := rfl
theorem d87_0 : decode (mC 87) 0 = .ok (.aload_n 0, 1) := by rw [mC_87]; decide +kernel
theorem d87_1 : decode (mC 87) 1 = .ok (.getfield 63, 3) := by rw [mC_87]; decide +kernel
theorem d87_4 : decode (mC 87) 4 = .ok (.ifCond .eq 26, 3) := by rw [mC_87]; decide +kernel
theorem d87_7 : decode (mC 87) 7 = .ok (.aload_n 0, 1) := by rw [mC_87]; decide +kernel
theorem d87_8 : decode (mC 87) 8 = .ok (.getfield 7, 3) := by rw [mC_87]; decide +kernel
theorem d87_11 : decode (mC 87) 11 = .ok (.aload_n 0, 1) := by rw [mC_87]; decide +kernel
theorem d87_12 : decode (mC 87) 12 = .ok (.getfield 67, 3) := by rw [mC_87]; decide +kernel
theorem d87_15 : decode (mC 87) 15 = .ok (.iload_n 1, 1) := by rw [mC_87]; decide +kernel
theorem d87_16 : decode (mC 87) 16 = .ok (.iastore, 1) := by rw [mC_87]; decide +kernel
theorem d87_17 : decode (mC 87) 17 = .ok (.aload_n 0, 1) := by rw [mC_87]; decide +kernel
theorem d87_18 : decode (mC 87) 18 = .ok (.dup, 1) := by rw [mC_87]; decide +kernel
theorem d87_19 : decode (mC 87) 19 = .ok (.getfield 67, 3) := by rw [mC_87]; decide +kernel
theorem d87_22 : decode (mC 87) 22 = .ok (.iconst 1, 1) := by rw [mC_87]; decide +kernel
theorem d87_23 : decode (mC 87) 23 = .ok (.iadd, 1) := by rw [mC_87]; decide +kernel
theorem d87_24 : decode (mC 87) 24 = .ok (.putfield 67, 3) := by rw [mC_87]; decide +kernel
theorem d87_27 : decode (mC 87) 27 = .ok (.goto 40, 3) := by rw [mC_87]; decide +kernel
theorem d87_30 : decode (mC 87) 30 = .ok (.aload_n 0, 1) := by rw [mC_87]; decide +kernel
theorem d87_31 : decode (mC 87) 31 = .ok (.getfield 70, 3) := by rw [mC_87]; decide +kernel
theorem d87_34 : decode (mC 87) 34 = .ok (.bipush 20, 2) := by rw [mC_87]; decide +kernel
theorem d87_36 : decode (mC 87) 36 = .ok (.if_icmp .ge 21, 3) := by rw [mC_87]; decide +kernel
theorem d87_39 : decode (mC 87) 39 = .ok (.aload_n 0, 1) := by rw [mC_87]; decide +kernel
theorem d87_40 : decode (mC 87) 40 = .ok (.getfield 22, 3) := by rw [mC_87]; decide +kernel
theorem d87_43 : decode (mC 87) 43 = .ok (.bipush 120, 2) := by rw [mC_87]; decide +kernel
theorem d87_45 : decode (mC 87) 45 = .ok (.aload_n 0, 1) := by rw [mC_87]; decide +kernel
theorem d87_46 : decode (mC 87) 46 = .ok (.getfield 70, 3) := by rw [mC_87]; decide +kernel
theorem d87_49 : decode (mC 87) 49 = .ok (.imul, 1) := by rw [mC_87]; decide +kernel
theorem d87_50 : decode (mC 87) 50 = .ok (.aload_n 0, 1) := by rw [mC_87]; decide +kernel
theorem d87_51 : decode (mC 87) 51 = .ok (.getfield 73, 3) := by rw [mC_87]; decide +kernel
theorem d87_54 : decode (mC 87) 54 = .ok (.iadd, 1) := by rw [mC_87]; decide +kernel
theorem d87_55 : decode (mC 87) 55 = .ok (.iload_n 1, 1) := by rw [mC_87]; decide +kernel
theorem d87_56 : decode (mC 87) 56 = .ok (.iastore, 1) := by rw [mC_87]; decide +kernel
theorem d87_57 : decode (mC 87) 57 = .ok (.aload_n 0, 1) := by rw [mC_87]; decide +kernel
theorem d87_58 : decode (mC 87) 58 = .ok (.dup, 1) := by rw [mC_87]; decide +kernel
theorem d87_59 : decode (mC 87) 59 = .ok (.getfield 73, 3) := by rw [mC_87]; decide +kernel
theorem d87_62 : decode (mC 87) 62 = .ok (.iconst 1, 1) := by rw [mC_87]; decide +kernel
theorem d87_63 : decode (mC 87) 63 = .ok (.iadd, 1) := by rw [mC_87]; decide +kernel
theorem d87_64 : decode (mC 87) 64 = .ok (.putfield 73, 3) := by rw [mC_87]; decide +kernel
theorem d87_67 : decode (mC 87) 67 = .ok (.return_, 1) := by rw [mC_87]; decide +kernel
theorem s87_0 {S : Nat × (Nat → Int32)} {L : List (Option Value)} {st : List Value} {n : Nat} {Q : xQ} {μ : xM} {a : Nat} (hl : L[0]? = some (some (.ref a))) (h : x_V S 87 1 L (.ref a :: st) μ n Q) : x_V S 87 0 L (st) μ n Q := x_aload_n d87_0 hl h
theorem s87_0N {S : Nat × (Nat → Int32)} {L : List (Option Value)} {st : List Value} {n : Nat} {Q : xQ} {μ : xM} (hl : L[0]? = some (some .null)) (h : x_V S 87 1 L (.null :: st) μ n Q) : x_V S 87 0 L st μ n Q := x_aload_nN d87_0 hl h
theorem s87_1 {S : Nat × (Nat → Int32)} {L : List (Option Value)} {st : List Value} {n : Nat} {Q : xQ} {g : Nat → Nat → Int} {a : Nat} (hs : x_sh a = (9, 39)) (hp : x_pt a 38 = none) (ha : a ≠ x_out) (h : x_V S 87 4 L (.int (I (g a 38)) :: st) (x_vm g) n Q) : x_V S 87 1 L (.ref a :: st) (x_vm g) n Q := v_get (i := 38) cf9 d87_1 (by decide) w733 hs hp ha h
theorem s87_4 {S : Nat × (Nat → Int32)} {L : List (Option Value)} {st : List Value} {n : Nat} {Q : xQ} {μ : xM} {x : Int} (hx : ib x) (kt : x = 0 → x_V S 87 30 L (st) μ n Q) (kf : x ≠ 0 → x_V S 87 7 L (st) μ n Q) : x_V S 87 4 L (.int (I x) :: st) μ n Q := v_if_eq d87_4 (by decide) hx kt kf
theorem s87_7 {S : Nat × (Nat → Int32)} {L : List (Option Value)} {st : List Value} {n : Nat} {Q : xQ} {μ : xM} {a : Nat} (hl : L[0]? = some (some (.ref a))) (h : x_V S 87 8 L (.ref a :: st) μ n Q) : x_V S 87 7 L (st) μ n Q := x_aload_n d87_7 hl h
theorem s87_7N {S : Nat × (Nat → Int32)} {L : List (Option Value)} {st : List Value} {n : Nat} {Q : xQ} {μ : xM} (hl : L[0]? = some (some .null)) (h : x_V S 87 8 L (.null :: st) μ n Q) : x_V S 87 7 L st μ n Q := x_aload_nN d87_7 hl h
theorem s87_8 {S : Nat × (Nat → Int32)} {L : List (Option Value)} {st : List Value} {n : Nat} {Q : xQ} {g : Nat → Nat → Int} {a : Nat} {v : Value} (hs : x_sh a = (9, 39)) (hp : x_pt a 3 = some v) (h : x_V S 87 11 L (v :: st) (x_vm g) n Q) : x_V S 87 8 L (.ref a :: st) (x_vm g) n Q := v_getp (i := 3) cf9 d87_8 (by decide) w698 hs hp h
theorem s87_11 {S : Nat × (Nat → Int32)} {L : List (Option Value)} {st : List Value} {n : Nat} {Q : xQ} {μ : xM} {a : Nat} (hl : L[0]? = some (some (.ref a))) (h : x_V S 87 12 L (.ref a :: st) μ n Q) : x_V S 87 11 L (st) μ n Q := x_aload_n d87_11 hl h
theorem s87_11N {S : Nat × (Nat → Int32)} {L : List (Option Value)} {st : List Value} {n : Nat} {Q : xQ} {μ : xM} (hl : L[0]? = some (some .null)) (h : x_V S 87 12 L (.null :: st) μ n Q) : x_V S 87 11 L st μ n Q := x_aload_nN d87_11 hl h
theorem s87_12 {S : Nat × (Nat → Int32)} {L : List (Option Value)} {st : List Value} {n : Nat} {Q : xQ} {g : Nat → Nat → Int} {a : Nat} (hs : x_sh a = (9, 39)) (hp : x_pt a 2 = none) (ha : a ≠ x_out) (h : x_V S 87 15 L (.int (I (g a 2)) :: st) (x_vm g) n Q) : x_V S 87 12 L (.ref a :: st) (x_vm g) n Q := v_get (i := 2) cf9 d87_12 (by decide) w697 hs hp ha h
theorem s87_15 {S : Nat × (Nat → Int32)} {L : List (Option Value)} {st : List Value} {n : Nat} {Q : xQ} {μ : xM} {x : Int32} (hl : L[1]? = some (some (.int x))) (h : x_V S 87 16 L (.int x :: st) μ n Q) : x_V S 87 15 L (st) μ n Q := x_iload_n d87_15 hl h
theorem s87_17 {S : Nat × (Nat → Int32)} {L : List (Option Value)} {st : List Value} {n : Nat} {Q : xQ} {μ : xM} {a : Nat} (hl : L[0]? = some (some (.ref a))) (h : x_V S 87 18 L (.ref a :: st) μ n Q) : x_V S 87 17 L (st) μ n Q := x_aload_n d87_17 hl h
theorem s87_17N {S : Nat × (Nat → Int32)} {L : List (Option Value)} {st : List Value} {n : Nat} {Q : xQ} {μ : xM} (hl : L[0]? = some (some .null)) (h : x_V S 87 18 L (.null :: st) μ n Q) : x_V S 87 17 L st μ n Q := x_aload_nN d87_17 hl h
theorem s87_18 {S : Nat × (Nat → Int32)} {L : List (Option Value)} {st : List Value} {n : Nat} {Q : xQ} {μ : xM} {v : Value} (hc : v.category = 1) (h : x_V S 87 19 L (v :: v :: st) μ n Q) : x_V S 87 18 L (v :: st) μ n Q := x_dup hc d87_18 h
theorem s87_19 {S : Nat × (Nat → Int32)} {L : List (Option Value)} {st : List Value} {n : Nat} {Q : xQ} {g : Nat → Nat → Int} {a : Nat} (hs : x_sh a = (9, 39)) (hp : x_pt a 2 = none) (ha : a ≠ x_out) (h : x_V S 87 22 L (.int (I (g a 2)) :: st) (x_vm g) n Q) : x_V S 87 19 L (.ref a :: st) (x_vm g) n Q := v_get (i := 2) cf9 d87_19 (by decide) w697 hs hp ha h
theorem s87_22 {S : Nat × (Nat → Int32)} {L : List (Option Value)} {st : List Value} {n : Nat} {Q : xQ} {μ : xM}  (h : x_V S 87 23 L (.int (I 1) :: st) μ n Q) : x_V S 87 22 L (st) μ n Q := x_iconst (by decide +kernel) d87_22 h
theorem s87_23 {S : Nat × (Nat → Int32)} {L : List (Option Value)} {st : List Value} {n : Nat} {Q : xQ} {μ : xM} {x y : Int} (h : x_V S 87 24 L (.int (I (x + y)) :: st) μ n Q) : x_V S 87 23 L (.int (I y) :: .int (I x) :: st) μ n Q := v_iadd d87_23 h
theorem s87_24 {S : Nat × (Nat → Int32)} {L : List (Option Value)} {st : List Value} {n : Nat} {Q : xQ} {g : Nat → Nat → Int} {a : Nat} {x : Int} (hs : x_sh a = (9, 39)) (hp : x_pt a 2 = none) (ha : a ≠ x_out) (h : x_V S 87 27 L (st) (x_vm (x_uf g a 2 x)) n Q) : x_V S 87 24 L (.int (I x) :: .ref a :: st) (x_vm g) n Q := v_put (i := 2) cf9 d87_24 (by decide) rfl w697 hs rfl hp ha h
theorem s87_27 {S : Nat × (Nat → Int32)} {L : List (Option Value)} {st : List Value} {n : Nat} {Q : xQ} {μ : xM}  (h : x_V S 87 67 L (st) μ n Q) : x_V S 87 27 L (st) μ n Q := x_goto (tgt := 67) (by decide) d87_27 h
theorem s87_30 {S : Nat × (Nat → Int32)} {L : List (Option Value)} {st : List Value} {n : Nat} {Q : xQ} {μ : xM} {a : Nat} (hl : L[0]? = some (some (.ref a))) (h : x_V S 87 31 L (.ref a :: st) μ n Q) : x_V S 87 30 L (st) μ n Q := x_aload_n d87_30 hl h
theorem s87_30N {S : Nat × (Nat → Int32)} {L : List (Option Value)} {st : List Value} {n : Nat} {Q : xQ} {μ : xM} (hl : L[0]? = some (some .null)) (h : x_V S 87 31 L (.null :: st) μ n Q) : x_V S 87 30 L st μ n Q := x_aload_nN d87_30 hl h
theorem s87_31 {S : Nat × (Nat → Int32)} {L : List (Option Value)} {st : List Value} {n : Nat} {Q : xQ} {g : Nat → Nat → Int} {a : Nat} (hs : x_sh a = (9, 39)) (hp : x_pt a 15 = none) (ha : a ≠ x_out) (h : x_V S 87 34 L (.int (I (g a 15)) :: st) (x_vm g) n Q) : x_V S 87 31 L (.ref a :: st) (x_vm g) n Q := v_get (i := 15) cf9 d87_31 (by decide) w710 hs hp ha h
theorem s87_34 {S : Nat × (Nat → Int32)} {L : List (Option Value)} {st : List Value} {n : Nat} {Q : xQ} {μ : xM}  (h : x_V S 87 36 L (.int (I 20) :: st) μ n Q) : x_V S 87 34 L (st) μ n Q := x_bipush (by decide +kernel) d87_34 h
theorem s87_36 {S : Nat × (Nat → Int32)} {L : List (Option Value)} {st : List Value} {n : Nat} {Q : xQ} {μ : xM} {x y : Int} (hx : ib x) (hy : ib y) (kt : y ≤ x → x_V S 87 57 L (st) μ n Q) (kf : x < y → x_V S 87 39 L (st) μ n Q) : x_V S 87 36 L (.int (I y) :: .int (I x) :: st) μ n Q := v_icmp_ge d87_36 (by decide) hx hy kt kf
theorem s87_39 {S : Nat × (Nat → Int32)} {L : List (Option Value)} {st : List Value} {n : Nat} {Q : xQ} {μ : xM} {a : Nat} (hl : L[0]? = some (some (.ref a))) (h : x_V S 87 40 L (.ref a :: st) μ n Q) : x_V S 87 39 L (st) μ n Q := x_aload_n d87_39 hl h
theorem s87_39N {S : Nat × (Nat → Int32)} {L : List (Option Value)} {st : List Value} {n : Nat} {Q : xQ} {μ : xM} (hl : L[0]? = some (some .null)) (h : x_V S 87 40 L (.null :: st) μ n Q) : x_V S 87 39 L st μ n Q := x_aload_nN d87_39 hl h
theorem s87_40 {S : Nat × (Nat → Int32)} {L : List (Option Value)} {st : List Value} {n : Nat} {Q : xQ} {g : Nat → Nat → Int} {a : Nat} {v : Value} (hs : x_sh a = (9, 39)) (hp : x_pt a 16 = some v) (h : x_V S 87 43 L (v :: st) (x_vm g) n Q) : x_V S 87 40 L (.ref a :: st) (x_vm g) n Q := v_getp (i := 16) cf9 d87_40 (by decide) w711 hs hp h
theorem s87_43 {S : Nat × (Nat → Int32)} {L : List (Option Value)} {st : List Value} {n : Nat} {Q : xQ} {μ : xM}  (h : x_V S 87 45 L (.int (I 120) :: st) μ n Q) : x_V S 87 43 L (st) μ n Q := x_bipush (by decide +kernel) d87_43 h
theorem s87_45 {S : Nat × (Nat → Int32)} {L : List (Option Value)} {st : List Value} {n : Nat} {Q : xQ} {μ : xM} {a : Nat} (hl : L[0]? = some (some (.ref a))) (h : x_V S 87 46 L (.ref a :: st) μ n Q) : x_V S 87 45 L (st) μ n Q := x_aload_n d87_45 hl h
theorem s87_45N {S : Nat × (Nat → Int32)} {L : List (Option Value)} {st : List Value} {n : Nat} {Q : xQ} {μ : xM} (hl : L[0]? = some (some .null)) (h : x_V S 87 46 L (.null :: st) μ n Q) : x_V S 87 45 L st μ n Q := x_aload_nN d87_45 hl h
theorem s87_46 {S : Nat × (Nat → Int32)} {L : List (Option Value)} {st : List Value} {n : Nat} {Q : xQ} {g : Nat → Nat → Int} {a : Nat} (hs : x_sh a = (9, 39)) (hp : x_pt a 15 = none) (ha : a ≠ x_out) (h : x_V S 87 49 L (.int (I (g a 15)) :: st) (x_vm g) n Q) : x_V S 87 46 L (.ref a :: st) (x_vm g) n Q := v_get (i := 15) cf9 d87_46 (by decide) w710 hs hp ha h
theorem s87_49 {S : Nat × (Nat → Int32)} {L : List (Option Value)} {st : List Value} {n : Nat} {Q : xQ} {μ : xM} {x y : Int} (h : x_V S 87 50 L (.int (I (x * y)) :: st) μ n Q) : x_V S 87 49 L (.int (I y) :: .int (I x) :: st) μ n Q := v_imul d87_49 h
theorem s87_50 {S : Nat × (Nat → Int32)} {L : List (Option Value)} {st : List Value} {n : Nat} {Q : xQ} {μ : xM} {a : Nat} (hl : L[0]? = some (some (.ref a))) (h : x_V S 87 51 L (.ref a :: st) μ n Q) : x_V S 87 50 L (st) μ n Q := x_aload_n d87_50 hl h
theorem s87_50N {S : Nat × (Nat → Int32)} {L : List (Option Value)} {st : List Value} {n : Nat} {Q : xQ} {μ : xM} (hl : L[0]? = some (some .null)) (h : x_V S 87 51 L (.null :: st) μ n Q) : x_V S 87 50 L st μ n Q := x_aload_nN d87_50 hl h
theorem s87_51 {S : Nat × (Nat → Int32)} {L : List (Option Value)} {st : List Value} {n : Nat} {Q : xQ} {g : Nat → Nat → Int} {a : Nat} (hs : x_sh a = (9, 39)) (hp : x_pt a 18 = none) (ha : a ≠ x_out) (h : x_V S 87 54 L (.int (I (g a 18)) :: st) (x_vm g) n Q) : x_V S 87 51 L (.ref a :: st) (x_vm g) n Q := v_get (i := 18) cf9 d87_51 (by decide) w713 hs hp ha h
theorem s87_54 {S : Nat × (Nat → Int32)} {L : List (Option Value)} {st : List Value} {n : Nat} {Q : xQ} {μ : xM} {x y : Int} (h : x_V S 87 55 L (.int (I (x + y)) :: st) μ n Q) : x_V S 87 54 L (.int (I y) :: .int (I x) :: st) μ n Q := v_iadd d87_54 h
theorem s87_55 {S : Nat × (Nat → Int32)} {L : List (Option Value)} {st : List Value} {n : Nat} {Q : xQ} {μ : xM} {x : Int32} (hl : L[1]? = some (some (.int x))) (h : x_V S 87 56 L (.int x :: st) μ n Q) : x_V S 87 55 L (st) μ n Q := x_iload_n d87_55 hl h
theorem s87_57 {S : Nat × (Nat → Int32)} {L : List (Option Value)} {st : List Value} {n : Nat} {Q : xQ} {μ : xM} {a : Nat} (hl : L[0]? = some (some (.ref a))) (h : x_V S 87 58 L (.ref a :: st) μ n Q) : x_V S 87 57 L (st) μ n Q := x_aload_n d87_57 hl h
theorem s87_57N {S : Nat × (Nat → Int32)} {L : List (Option Value)} {st : List Value} {n : Nat} {Q : xQ} {μ : xM} (hl : L[0]? = some (some .null)) (h : x_V S 87 58 L (.null :: st) μ n Q) : x_V S 87 57 L st μ n Q := x_aload_nN d87_57 hl h
theorem s87_58 {S : Nat × (Nat → Int32)} {L : List (Option Value)} {st : List Value} {n : Nat} {Q : xQ} {μ : xM} {v : Value} (hc : v.category = 1) (h : x_V S 87 59 L (v :: v :: st) μ n Q) : x_V S 87 58 L (v :: st) μ n Q := x_dup hc d87_58 h
theorem s87_59 {S : Nat × (Nat → Int32)} {L : List (Option Value)} {st : List Value} {n : Nat} {Q : xQ} {g : Nat → Nat → Int} {a : Nat} (hs : x_sh a = (9, 39)) (hp : x_pt a 18 = none) (ha : a ≠ x_out) (h : x_V S 87 62 L (.int (I (g a 18)) :: st) (x_vm g) n Q) : x_V S 87 59 L (.ref a :: st) (x_vm g) n Q := v_get (i := 18) cf9 d87_59 (by decide) w713 hs hp ha h
theorem s87_62 {S : Nat × (Nat → Int32)} {L : List (Option Value)} {st : List Value} {n : Nat} {Q : xQ} {μ : xM}  (h : x_V S 87 63 L (.int (I 1) :: st) μ n Q) : x_V S 87 62 L (st) μ n Q := x_iconst (by decide +kernel) d87_62 h
theorem s87_63 {S : Nat × (Nat → Int32)} {L : List (Option Value)} {st : List Value} {n : Nat} {Q : xQ} {μ : xM} {x y : Int} (h : x_V S 87 64 L (.int (I (x + y)) :: st) μ n Q) : x_V S 87 63 L (.int (I y) :: .int (I x) :: st) μ n Q := v_iadd d87_63 h
theorem s87_64 {S : Nat × (Nat → Int32)} {L : List (Option Value)} {st : List Value} {n : Nat} {Q : xQ} {g : Nat → Nat → Int} {a : Nat} {x : Int} (hs : x_sh a = (9, 39)) (hp : x_pt a 18 = none) (ha : a ≠ x_out) (h : x_V S 87 67 L (st) (x_vm (x_uf g a 18 x)) n Q) : x_V S 87 64 L (.int (I x) :: .ref a :: st) (x_vm g) n Q := v_put (i := 18) cf9 d87_64 (by decide) rfl w713 hs rfl hp ha h
theorem s87_67 {S : Nat × (Nat → Int32)} {L : List (Option Value)} {st : List Value} {n : Nat} {Q : xQ} {μ : xM}  (h : Q (.inl none) μ n) : x_V S 87 67 L ([]) μ n Q := x_return d87_67 rfl h
theorem mC_88 : mC 88 = prog_12_method_6_code := rfl
theorem d88_0 : decode (mC 88) 0 = .ok (.iconst 1, 1) := by rw [mC_88]; decide +kernel
theorem d88_1 : decode (mC 88) 1 = .ok (.istore_n 2, 1) := by rw [mC_88]; decide +kernel
theorem d88_2 : decode (mC 88) 2 = .ok (.iload_n 1, 1) := by rw [mC_88]; decide +kernel
theorem d88_3 : decode (mC 88) 3 = .ok (.iload_n 2, 1) := by rw [mC_88]; decide +kernel
theorem d88_4 : decode (mC 88) 4 = .ok (.idiv, 1) := by rw [mC_88]; decide +kernel
theorem d88_5 : decode (mC 88) 5 = .ok (.bipush 9, 2) := by rw [mC_88]; decide +kernel
theorem d88_7 : decode (mC 88) 7 = .ok (.if_icmp .le 11, 3) := by rw [mC_88]; decide +kernel
theorem d88_10 : decode (mC 88) 10 = .ok (.iload_n 2, 1) := by rw [mC_88]; decide +kernel
theorem d88_11 : decode (mC 88) 11 = .ok (.bipush 10, 2) := by rw [mC_88]; decide +kernel
theorem d88_13 : decode (mC 88) 13 = .ok (.imul, 1) := by rw [mC_88]; decide +kernel
theorem d88_14 : decode (mC 88) 14 = .ok (.istore_n 2, 1) := by rw [mC_88]; decide +kernel
theorem d88_15 : decode (mC 88) 15 = .ok (.goto (-13), 3) := by rw [mC_88]; decide +kernel
theorem d88_18 : decode (mC 88) 18 = .ok (.iload_n 2, 1) := by rw [mC_88]; decide +kernel
theorem d88_19 : decode (mC 88) 19 = .ok (.istore_n 3, 1) := by rw [mC_88]; decide +kernel
theorem d88_20 : decode (mC 88) 20 = .ok (.iload_n 3, 1) := by rw [mC_88]; decide +kernel
theorem d88_21 : decode (mC 88) 21 = .ok (.ifCond .le 24, 3) := by rw [mC_88]; decide +kernel
theorem d88_24 : decode (mC 88) 24 = .ok (.aload_n 0, 1) := by rw [mC_88]; decide +kernel
theorem d88_25 : decode (mC 88) 25 = .ok (.bipush 48, 2) := by rw [mC_88]; decide +kernel
theorem d88_27 : decode (mC 88) 27 = .ok (.iload_n 1, 1) := by rw [mC_88]; decide +kernel
theorem d88_28 : decode (mC 88) 28 = .ok (.iload_n 3, 1) := by rw [mC_88]; decide +kernel
theorem d88_29 : decode (mC 88) 29 = .ok (.idiv, 1) := by rw [mC_88]; decide +kernel
theorem d88_30 : decode (mC 88) 30 = .ok (.bipush 10, 2) := by rw [mC_88]; decide +kernel
theorem d88_32 : decode (mC 88) 32 = .ok (.irem, 1) := by rw [mC_88]; decide +kernel
theorem d88_33 : decode (mC 88) 33 = .ok (.iadd, 1) := by rw [mC_88]; decide +kernel
theorem d88_34 : decode (mC 88) 34 = .ok (.invokevirtual 76, 3) := by rw [mC_88]; decide +kernel
theorem d88_37 : decode (mC 88) 37 = .ok (.iload_n 3, 1) := by rw [mC_88]; decide +kernel
theorem d88_38 : decode (mC 88) 38 = .ok (.bipush 10, 2) := by rw [mC_88]; decide +kernel
theorem d88_40 : decode (mC 88) 40 = .ok (.idiv, 1) := by rw [mC_88]; decide +kernel
theorem d88_41 : decode (mC 88) 41 = .ok (.istore_n 3, 1) := by rw [mC_88]; decide +kernel
theorem d88_42 : decode (mC 88) 42 = .ok (.goto (-22), 3) := by rw [mC_88]; decide +kernel
theorem d88_45 : decode (mC 88) 45 = .ok (.return_, 1) := by rw [mC_88]; decide +kernel
theorem s88_0 {S : Nat × (Nat → Int32)} {L : List (Option Value)} {st : List Value} {n : Nat} {Q : xQ} {μ : xM}  (h : x_V S 88 1 L (.int (I 1) :: st) μ n Q) : x_V S 88 0 L (st) μ n Q := x_iconst (by decide +kernel) d88_0 h
theorem s88_1 {S : Nat × (Nat → Int32)} {L : List (Option Value)} {st : List Value} {n : Nat} {Q : xQ} {μ : xM} {x : Int32} (h : x_V S 88 2 (L.set 2 (some (.int x))) (st) μ n Q) : x_V S 88 1 L (.int x :: st) μ n Q := x_istore_n d88_1 (by decide) h
theorem s88_2 {S : Nat × (Nat → Int32)} {L : List (Option Value)} {st : List Value} {n : Nat} {Q : xQ} {μ : xM} {x : Int32} (hl : L[1]? = some (some (.int x))) (h : x_V S 88 3 L (.int x :: st) μ n Q) : x_V S 88 2 L (st) μ n Q := x_iload_n d88_2 hl h
theorem s88_3 {S : Nat × (Nat → Int32)} {L : List (Option Value)} {st : List Value} {n : Nat} {Q : xQ} {μ : xM} {x : Int32} (hl : L[2]? = some (some (.int x))) (h : x_V S 88 4 L (.int x :: st) μ n Q) : x_V S 88 3 L (st) μ n Q := x_iload_n d88_3 hl h
theorem s88_4 {S : Nat × (Nat → Int32)} {L : List (Option Value)} {st : List Value} {n : Nat} {Q : xQ} {μ : xM} {x y : Int} (hx : ib x) (hy : ib y) (hx0 : 0 ≤ x) (hy0 : 0 < y) (h : x_V S 88 5 L (.int (I (x / y)) :: st) μ n Q) : x_V S 88 4 L (.int (I y) :: .int (I x) :: st) μ n Q := v_idiv d88_4 hx hy hx0 hy0 h
theorem s88_5 {S : Nat × (Nat → Int32)} {L : List (Option Value)} {st : List Value} {n : Nat} {Q : xQ} {μ : xM}  (h : x_V S 88 7 L (.int (I 9) :: st) μ n Q) : x_V S 88 5 L (st) μ n Q := x_bipush (by decide +kernel) d88_5 h
theorem s88_7 {S : Nat × (Nat → Int32)} {L : List (Option Value)} {st : List Value} {n : Nat} {Q : xQ} {μ : xM} {x y : Int} (hx : ib x) (hy : ib y) (kt : x ≤ y → x_V S 88 18 L (st) μ n Q) (kf : y < x → x_V S 88 10 L (st) μ n Q) : x_V S 88 7 L (.int (I y) :: .int (I x) :: st) μ n Q := v_icmp_le d88_7 (by decide) hx hy kt kf
theorem s88_10 {S : Nat × (Nat → Int32)} {L : List (Option Value)} {st : List Value} {n : Nat} {Q : xQ} {μ : xM} {x : Int32} (hl : L[2]? = some (some (.int x))) (h : x_V S 88 11 L (.int x :: st) μ n Q) : x_V S 88 10 L (st) μ n Q := x_iload_n d88_10 hl h
theorem s88_11 {S : Nat × (Nat → Int32)} {L : List (Option Value)} {st : List Value} {n : Nat} {Q : xQ} {μ : xM}  (h : x_V S 88 13 L (.int (I 10) :: st) μ n Q) : x_V S 88 11 L (st) μ n Q := x_bipush (by decide +kernel) d88_11 h
theorem s88_13 {S : Nat × (Nat → Int32)} {L : List (Option Value)} {st : List Value} {n : Nat} {Q : xQ} {μ : xM} {x y : Int} (h : x_V S 88 14 L (.int (I (x * y)) :: st) μ n Q) : x_V S 88 13 L (.int (I y) :: .int (I x) :: st) μ n Q := v_imul d88_13 h
theorem s88_14 {S : Nat × (Nat → Int32)} {L : List (Option Value)} {st : List Value} {n : Nat} {Q : xQ} {μ : xM} {x : Int32} (h : x_V S 88 15 (L.set 2 (some (.int x))) (st) μ n Q) : x_V S 88 14 L (.int x :: st) μ n Q := x_istore_n d88_14 (by decide) h
theorem s88_15 {S : Nat × (Nat → Int32)} {L : List (Option Value)} {st : List Value} {n : Nat} {Q : xQ} {μ : xM}  (h : x_V S 88 2 L (st) μ n Q) : x_V S 88 15 L (st) μ n Q := x_goto (tgt := 2) (by decide) d88_15 h
theorem s88_18 {S : Nat × (Nat → Int32)} {L : List (Option Value)} {st : List Value} {n : Nat} {Q : xQ} {μ : xM} {x : Int32} (hl : L[2]? = some (some (.int x))) (h : x_V S 88 19 L (.int x :: st) μ n Q) : x_V S 88 18 L (st) μ n Q := x_iload_n d88_18 hl h
theorem s88_19 {S : Nat × (Nat → Int32)} {L : List (Option Value)} {st : List Value} {n : Nat} {Q : xQ} {μ : xM} {x : Int32} (h : x_V S 88 20 (L.set 3 (some (.int x))) (st) μ n Q) : x_V S 88 19 L (.int x :: st) μ n Q := x_istore_n d88_19 (by decide) h
theorem s88_20 {S : Nat × (Nat → Int32)} {L : List (Option Value)} {st : List Value} {n : Nat} {Q : xQ} {μ : xM} {x : Int32} (hl : L[3]? = some (some (.int x))) (h : x_V S 88 21 L (.int x :: st) μ n Q) : x_V S 88 20 L (st) μ n Q := x_iload_n d88_20 hl h
theorem s88_21 {S : Nat × (Nat → Int32)} {L : List (Option Value)} {st : List Value} {n : Nat} {Q : xQ} {μ : xM} {x : Int} (hx : ib x) (kt : x ≤ 0 → x_V S 88 45 L (st) μ n Q) (kf : 0 < x → x_V S 88 24 L (st) μ n Q) : x_V S 88 21 L (.int (I x) :: st) μ n Q := v_if_le d88_21 (by decide) hx kt kf
theorem s88_24 {S : Nat × (Nat → Int32)} {L : List (Option Value)} {st : List Value} {n : Nat} {Q : xQ} {μ : xM} {a : Nat} (hl : L[0]? = some (some (.ref a))) (h : x_V S 88 25 L (.ref a :: st) μ n Q) : x_V S 88 24 L (st) μ n Q := x_aload_n d88_24 hl h
theorem s88_24N {S : Nat × (Nat → Int32)} {L : List (Option Value)} {st : List Value} {n : Nat} {Q : xQ} {μ : xM} (hl : L[0]? = some (some .null)) (h : x_V S 88 25 L (.null :: st) μ n Q) : x_V S 88 24 L st μ n Q := x_aload_nN d88_24 hl h
theorem s88_25 {S : Nat × (Nat → Int32)} {L : List (Option Value)} {st : List Value} {n : Nat} {Q : xQ} {μ : xM}  (h : x_V S 88 27 L (.int (I 48) :: st) μ n Q) : x_V S 88 25 L (st) μ n Q := x_bipush (by decide +kernel) d88_25 h
theorem s88_27 {S : Nat × (Nat → Int32)} {L : List (Option Value)} {st : List Value} {n : Nat} {Q : xQ} {μ : xM} {x : Int32} (hl : L[1]? = some (some (.int x))) (h : x_V S 88 28 L (.int x :: st) μ n Q) : x_V S 88 27 L (st) μ n Q := x_iload_n d88_27 hl h
theorem s88_28 {S : Nat × (Nat → Int32)} {L : List (Option Value)} {st : List Value} {n : Nat} {Q : xQ} {μ : xM} {x : Int32} (hl : L[3]? = some (some (.int x))) (h : x_V S 88 29 L (.int x :: st) μ n Q) : x_V S 88 28 L (st) μ n Q := x_iload_n d88_28 hl h
theorem s88_29 {S : Nat × (Nat → Int32)} {L : List (Option Value)} {st : List Value} {n : Nat} {Q : xQ} {μ : xM} {x y : Int} (hx : ib x) (hy : ib y) (hx0 : 0 ≤ x) (hy0 : 0 < y) (h : x_V S 88 30 L (.int (I (x / y)) :: st) μ n Q) : x_V S 88 29 L (.int (I y) :: .int (I x) :: st) μ n Q := v_idiv d88_29 hx hy hx0 hy0 h
theorem s88_30 {S : Nat × (Nat → Int32)} {L : List (Option Value)} {st : List Value} {n : Nat} {Q : xQ} {μ : xM}  (h : x_V S 88 32 L (.int (I 10) :: st) μ n Q) : x_V S 88 30 L (st) μ n Q := x_bipush (by decide +kernel) d88_30 h
theorem s88_32 {S : Nat × (Nat → Int32)} {L : List (Option Value)} {st : List Value} {n : Nat} {Q : xQ} {μ : xM} {x y : Int} (hx : ib x) (hy : ib y) (hx0 : 0 ≤ x) (hy0 : 0 < y) (h : x_V S 88 33 L (.int (I (x % y)) :: st) μ n Q) : x_V S 88 32 L (.int (I y) :: .int (I x) :: st) μ n Q := v_irem d88_32 hx hy hx0 hy0 h
theorem s88_33 {S : Nat × (Nat → Int32)} {L : List (Option Value)} {st : List Value} {n : Nat} {Q : xQ} {μ : xM} {x y : Int} (h : x_V S 88 34 L (.int (I (x + y)) :: st) μ n Q) : x_V S 88 33 L (.int (I y) :: .int (I x) :: st) μ n Q := v_iadd d88_33 h
theorem s88_34 {S : Nat × (Nat → Int32)} {L : List (Option Value)} {st : List Value} {n : Nat} {Q : xQ} {μ : xM} {x0 : Int32} {a : Nat} (hs : x_sh a = (9, 39)) (hst : st.length ≤ 4) (h : x_V S 87 0 [some (.ref a), some (.int x0)] [] μ n (x_bk S 88 34 L st Q)) : x_V S 88 34 L (.int x0 :: .ref a :: st) μ n Q := x_callV (k' := 87) (as := [.int x0]) (na := 1) d88_34 ⟨w848, by decide +kernel, by decide, by decide, by decide, by decide, by decide⟩ cf9 w845 w847 wp28 (by decide +kernel) rfl hs (fun v hv => by
    simp only [List.mem_cons, List.not_mem_nil, or_false] at hv
    rcases hv with rfl <;> first | rfl | assumption) hst h
theorem s88_37 {S : Nat × (Nat → Int32)} {L : List (Option Value)} {st : List Value} {n : Nat} {Q : xQ} {μ : xM} {x : Int32} (hl : L[3]? = some (some (.int x))) (h : x_V S 88 38 L (.int x :: st) μ n Q) : x_V S 88 37 L (st) μ n Q := x_iload_n d88_37 hl h
theorem s88_38 {S : Nat × (Nat → Int32)} {L : List (Option Value)} {st : List Value} {n : Nat} {Q : xQ} {μ : xM}  (h : x_V S 88 40 L (.int (I 10) :: st) μ n Q) : x_V S 88 38 L (st) μ n Q := x_bipush (by decide +kernel) d88_38 h
theorem s88_40 {S : Nat × (Nat → Int32)} {L : List (Option Value)} {st : List Value} {n : Nat} {Q : xQ} {μ : xM} {x y : Int} (hx : ib x) (hy : ib y) (hx0 : 0 ≤ x) (hy0 : 0 < y) (h : x_V S 88 41 L (.int (I (x / y)) :: st) μ n Q) : x_V S 88 40 L (.int (I y) :: .int (I x) :: st) μ n Q := v_idiv d88_40 hx hy hx0 hy0 h
theorem s88_41 {S : Nat × (Nat → Int32)} {L : List (Option Value)} {st : List Value} {n : Nat} {Q : xQ} {μ : xM} {x : Int32} (h : x_V S 88 42 (L.set 3 (some (.int x))) (st) μ n Q) : x_V S 88 41 L (.int x :: st) μ n Q := x_istore_n d88_41 (by decide) h
theorem s88_42 {S : Nat × (Nat → Int32)} {L : List (Option Value)} {st : List Value} {n : Nat} {Q : xQ} {μ : xM}  (h : x_V S 88 20 L (st) μ n Q) : x_V S 88 42 L (st) μ n Q := x_goto (tgt := 20) (by decide) d88_42 h
theorem s88_45 {S : Nat × (Nat → Int32)} {L : List (Option Value)} {st : List Value} {n : Nat} {Q : xQ} {μ : xM}  (h : Q (.inl none) μ n) : x_V S 88 45 L ([]) μ n Q := x_return d88_45 rfl h
theorem mC_89 : mC 89 = prog_12_method_7_code := rfl
theorem d89_0 : decode (mC 89) 0 = .ok (.aload_n 0, 1) := by rw [mC_89]; decide +kernel
theorem d89_1 : decode (mC 89) 1 = .ok (.iload_n 1, 1) := by rw [mC_89]; decide +kernel
theorem d89_2 : decode (mC 89) 2 = .ok (.invokevirtual 80, 3) := by rw [mC_89]; decide +kernel
theorem d89_5 : decode (mC 89) 5 = .ok (.aload_n 0, 1) := by rw [mC_89]; decide +kernel
theorem d89_6 : decode (mC 89) 6 = .ok (.bipush 61, 2) := by rw [mC_89]; decide +kernel
theorem d89_8 : decode (mC 89) 8 = .ok (.invokevirtual 76, 3) := by rw [mC_89]; decide +kernel
theorem d89_11 : decode (mC 89) 11 = .ok (.aload_n 0, 1) := by rw [mC_89]; decide +kernel
theorem d89_12 : decode (mC 89) 12 = .ok (.iload_n 2, 1) := by rw [mC_89]; decide +kernel
theorem d89_13 : decode (mC 89) 13 = .ok (.invokevirtual 80, 3) := by rw [mC_89]; decide +kernel
theorem d89_16 : decode (mC 89) 16 = .ok (.aload_n 0, 1) := by rw [mC_89]; decide +kernel
theorem d89_17 : decode (mC 89) 17 = .ok (.iconst 1, 1) := by rw [mC_89]; decide +kernel
theorem d89_18 : decode (mC 89) 18 = .ok (.invokevirtual 76, 3) := by rw [mC_89]; decide +kernel
theorem d89_21 : decode (mC 89) 21 = .ok (.return_, 1) := by rw [mC_89]; decide +kernel
theorem s89_0 {S : Nat × (Nat → Int32)} {L : List (Option Value)} {st : List Value} {n : Nat} {Q : xQ} {μ : xM} {a : Nat} (hl : L[0]? = some (some (.ref a))) (h : x_V S 89 1 L (.ref a :: st) μ n Q) : x_V S 89 0 L (st) μ n Q := x_aload_n d89_0 hl h
theorem s89_0N {S : Nat × (Nat → Int32)} {L : List (Option Value)} {st : List Value} {n : Nat} {Q : xQ} {μ : xM} (hl : L[0]? = some (some .null)) (h : x_V S 89 1 L (.null :: st) μ n Q) : x_V S 89 0 L st μ n Q := x_aload_nN d89_0 hl h
theorem s89_1 {S : Nat × (Nat → Int32)} {L : List (Option Value)} {st : List Value} {n : Nat} {Q : xQ} {μ : xM} {x : Int32} (hl : L[1]? = some (some (.int x))) (h : x_V S 89 2 L (.int x :: st) μ n Q) : x_V S 89 1 L (st) μ n Q := x_iload_n d89_1 hl h
theorem s89_2 {S : Nat × (Nat → Int32)} {L : List (Option Value)} {st : List Value} {n : Nat} {Q : xQ} {μ : xM} {x0 : Int32} {a : Nat} (hs : x_sh a = (9, 39)) (hst : st.length ≤ 4) (h : x_V S 88 0 [some (.ref a), some (.int x0), none, none] [] μ n (x_bk S 89 2 L st Q)) : x_V S 89 2 L (.int x0 :: .ref a :: st) μ n Q := x_callV (k' := 88) (as := [.int x0]) (na := 1) d89_2 ⟨w844, by decide +kernel, by decide, by decide, by decide, by decide, by decide⟩ cf9 w841 w843 wp27 (by decide +kernel) rfl hs (fun v hv => by
    simp only [List.mem_cons, List.not_mem_nil, or_false] at hv
    rcases hv with rfl <;> first | rfl | assumption) hst h
theorem s89_5 {S : Nat × (Nat → Int32)} {L : List (Option Value)} {st : List Value} {n : Nat} {Q : xQ} {μ : xM} {a : Nat} (hl : L[0]? = some (some (.ref a))) (h : x_V S 89 6 L (.ref a :: st) μ n Q) : x_V S 89 5 L (st) μ n Q := x_aload_n d89_5 hl h
theorem s89_5N {S : Nat × (Nat → Int32)} {L : List (Option Value)} {st : List Value} {n : Nat} {Q : xQ} {μ : xM} (hl : L[0]? = some (some .null)) (h : x_V S 89 6 L (.null :: st) μ n Q) : x_V S 89 5 L st μ n Q := x_aload_nN d89_5 hl h
theorem s89_6 {S : Nat × (Nat → Int32)} {L : List (Option Value)} {st : List Value} {n : Nat} {Q : xQ} {μ : xM}  (h : x_V S 89 8 L (.int (I 61) :: st) μ n Q) : x_V S 89 6 L (st) μ n Q := x_bipush (by decide +kernel) d89_6 h
theorem s89_8 {S : Nat × (Nat → Int32)} {L : List (Option Value)} {st : List Value} {n : Nat} {Q : xQ} {μ : xM} {x0 : Int32} {a : Nat} (hs : x_sh a = (9, 39)) (hst : st.length ≤ 4) (h : x_V S 87 0 [some (.ref a), some (.int x0)] [] μ n (x_bk S 89 8 L st Q)) : x_V S 89 8 L (.int x0 :: .ref a :: st) μ n Q := x_callV (k' := 87) (as := [.int x0]) (na := 1) d89_8 ⟨w848, by decide +kernel, by decide, by decide, by decide, by decide, by decide⟩ cf9 w845 w847 wp28 (by decide +kernel) rfl hs (fun v hv => by
    simp only [List.mem_cons, List.not_mem_nil, or_false] at hv
    rcases hv with rfl <;> first | rfl | assumption) hst h
theorem s89_11 {S : Nat × (Nat → Int32)} {L : List (Option Value)} {st : List Value} {n : Nat} {Q : xQ} {μ : xM} {a : Nat} (hl : L[0]? = some (some (.ref a))) (h : x_V S 89 12 L (.ref a :: st) μ n Q) : x_V S 89 11 L (st) μ n Q := x_aload_n d89_11 hl h
theorem s89_11N {S : Nat × (Nat → Int32)} {L : List (Option Value)} {st : List Value} {n : Nat} {Q : xQ} {μ : xM} (hl : L[0]? = some (some .null)) (h : x_V S 89 12 L (.null :: st) μ n Q) : x_V S 89 11 L st μ n Q := x_aload_nN d89_11 hl h
theorem s89_12 {S : Nat × (Nat → Int32)} {L : List (Option Value)} {st : List Value} {n : Nat} {Q : xQ} {μ : xM} {x : Int32} (hl : L[2]? = some (some (.int x))) (h : x_V S 89 13 L (.int x :: st) μ n Q) : x_V S 89 12 L (st) μ n Q := x_iload_n d89_12 hl h
theorem s89_13 {S : Nat × (Nat → Int32)} {L : List (Option Value)} {st : List Value} {n : Nat} {Q : xQ} {μ : xM} {x0 : Int32} {a : Nat} (hs : x_sh a = (9, 39)) (hst : st.length ≤ 4) (h : x_V S 88 0 [some (.ref a), some (.int x0), none, none] [] μ n (x_bk S 89 13 L st Q)) : x_V S 89 13 L (.int x0 :: .ref a :: st) μ n Q := x_callV (k' := 88) (as := [.int x0]) (na := 1) d89_13 ⟨w844, by decide +kernel, by decide, by decide, by decide, by decide, by decide⟩ cf9 w841 w843 wp27 (by decide +kernel) rfl hs (fun v hv => by
    simp only [List.mem_cons, List.not_mem_nil, or_false] at hv
    rcases hv with rfl <;> first | rfl | assumption) hst h
theorem s89_16 {S : Nat × (Nat → Int32)} {L : List (Option Value)} {st : List Value} {n : Nat} {Q : xQ} {μ : xM} {a : Nat} (hl : L[0]? = some (some (.ref a))) (h : x_V S 89 17 L (.ref a :: st) μ n Q) : x_V S 89 16 L (st) μ n Q := x_aload_n d89_16 hl h
theorem s89_16N {S : Nat × (Nat → Int32)} {L : List (Option Value)} {st : List Value} {n : Nat} {Q : xQ} {μ : xM} (hl : L[0]? = some (some .null)) (h : x_V S 89 17 L (.null :: st) μ n Q) : x_V S 89 16 L st μ n Q := x_aload_nN d89_16 hl h
theorem s89_17 {S : Nat × (Nat → Int32)} {L : List (Option Value)} {st : List Value} {n : Nat} {Q : xQ} {μ : xM}  (h : x_V S 89 18 L (.int (I 1) :: st) μ n Q) : x_V S 89 17 L (st) μ n Q := x_iconst (by decide +kernel) d89_17 h
theorem s89_18 {S : Nat × (Nat → Int32)} {L : List (Option Value)} {st : List Value} {n : Nat} {Q : xQ} {μ : xM} {x0 : Int32} {a : Nat} (hs : x_sh a = (9, 39)) (hst : st.length ≤ 4) (h : x_V S 87 0 [some (.ref a), some (.int x0)] [] μ n (x_bk S 89 18 L st Q)) : x_V S 89 18 L (.int x0 :: .ref a :: st) μ n Q := x_callV (k' := 87) (as := [.int x0]) (na := 1) d89_18 ⟨w848, by decide +kernel, by decide, by decide, by decide, by decide, by decide⟩ cf9 w845 w847 wp28 (by decide +kernel) rfl hs (fun v hv => by
    simp only [List.mem_cons, List.not_mem_nil, or_false] at hv
    rcases hv with rfl <;> first | rfl | assumption) hst h
theorem s89_21 {S : Nat × (Nat → Int32)} {L : List (Option Value)} {st : List Value} {n : Nat} {Q : xQ} {μ : xM}  (h : Q (.inl none) μ n) : x_V S 89 21 L ([]) μ n Q := x_return d89_21 rfl h
theorem mC_90 : mC 90 = prog_12_method_8_code := rfl
theorem d90_0 : decode (mC 90) 0 = .ok (.aload_n 0, 1) := by rw [mC_90]; decide +kernel
theorem d90_1 : decode (mC 90) 1 = .ok (.iload_n 1, 1) := by rw [mC_90]; decide +kernel
theorem d90_2 : decode (mC 90) 2 = .ok (.invokevirtual 80, 3) := by rw [mC_90]; decide +kernel
theorem d90_5 : decode (mC 90) 5 = .ok (.aload_n 0, 1) := by rw [mC_90]; decide +kernel
theorem d90_6 : decode (mC 90) 6 = .ok (.bipush 61, 2) := by rw [mC_90]; decide +kernel
theorem d90_8 : decode (mC 90) 8 = .ok (.invokevirtual 76, 3) := by rw [mC_90]; decide +kernel
theorem d90_11 : decode (mC 90) 11 = .ok (.aload_n 0, 1) := by rw [mC_90]; decide +kernel
theorem d90_12 : decode (mC 90) 12 = .ok (.iload_n 2, 1) := by rw [mC_90]; decide +kernel
theorem d90_13 : decode (mC 90) 13 = .ok (.invokevirtual 76, 3) := by rw [mC_90]; decide +kernel
theorem d90_16 : decode (mC 90) 16 = .ok (.aload_n 0, 1) := by rw [mC_90]; decide +kernel
theorem d90_17 : decode (mC 90) 17 = .ok (.iconst 1, 1) := by rw [mC_90]; decide +kernel
theorem d90_18 : decode (mC 90) 18 = .ok (.invokevirtual 76, 3) := by rw [mC_90]; decide +kernel
theorem d90_21 : decode (mC 90) 21 = .ok (.return_, 1) := by rw [mC_90]; decide +kernel
theorem s90_0 {S : Nat × (Nat → Int32)} {L : List (Option Value)} {st : List Value} {n : Nat} {Q : xQ} {μ : xM} {a : Nat} (hl : L[0]? = some (some (.ref a))) (h : x_V S 90 1 L (.ref a :: st) μ n Q) : x_V S 90 0 L (st) μ n Q := x_aload_n d90_0 hl h
theorem s90_0N {S : Nat × (Nat → Int32)} {L : List (Option Value)} {st : List Value} {n : Nat} {Q : xQ} {μ : xM} (hl : L[0]? = some (some .null)) (h : x_V S 90 1 L (.null :: st) μ n Q) : x_V S 90 0 L st μ n Q := x_aload_nN d90_0 hl h
theorem s90_1 {S : Nat × (Nat → Int32)} {L : List (Option Value)} {st : List Value} {n : Nat} {Q : xQ} {μ : xM} {x : Int32} (hl : L[1]? = some (some (.int x))) (h : x_V S 90 2 L (.int x :: st) μ n Q) : x_V S 90 1 L (st) μ n Q := x_iload_n d90_1 hl h
theorem s90_2 {S : Nat × (Nat → Int32)} {L : List (Option Value)} {st : List Value} {n : Nat} {Q : xQ} {μ : xM} {x0 : Int32} {a : Nat} (hs : x_sh a = (9, 39)) (hst : st.length ≤ 4) (h : x_V S 88 0 [some (.ref a), some (.int x0), none, none] [] μ n (x_bk S 90 2 L st Q)) : x_V S 90 2 L (.int x0 :: .ref a :: st) μ n Q := x_callV (k' := 88) (as := [.int x0]) (na := 1) d90_2 ⟨w844, by decide +kernel, by decide, by decide, by decide, by decide, by decide⟩ cf9 w841 w843 wp27 (by decide +kernel) rfl hs (fun v hv => by
    simp only [List.mem_cons, List.not_mem_nil, or_false] at hv
    rcases hv with rfl <;> first | rfl | assumption) hst h
theorem s90_5 {S : Nat × (Nat → Int32)} {L : List (Option Value)} {st : List Value} {n : Nat} {Q : xQ} {μ : xM} {a : Nat} (hl : L[0]? = some (some (.ref a))) (h : x_V S 90 6 L (.ref a :: st) μ n Q) : x_V S 90 5 L (st) μ n Q := x_aload_n d90_5 hl h
theorem s90_5N {S : Nat × (Nat → Int32)} {L : List (Option Value)} {st : List Value} {n : Nat} {Q : xQ} {μ : xM} (hl : L[0]? = some (some .null)) (h : x_V S 90 6 L (.null :: st) μ n Q) : x_V S 90 5 L st μ n Q := x_aload_nN d90_5 hl h
theorem s90_6 {S : Nat × (Nat → Int32)} {L : List (Option Value)} {st : List Value} {n : Nat} {Q : xQ} {μ : xM}  (h : x_V S 90 8 L (.int (I 61) :: st) μ n Q) : x_V S 90 6 L (st) μ n Q := x_bipush (by decide +kernel) d90_6 h
theorem s90_8 {S : Nat × (Nat → Int32)} {L : List (Option Value)} {st : List Value} {n : Nat} {Q : xQ} {μ : xM} {x0 : Int32} {a : Nat} (hs : x_sh a = (9, 39)) (hst : st.length ≤ 4) (h : x_V S 87 0 [some (.ref a), some (.int x0)] [] μ n (x_bk S 90 8 L st Q)) : x_V S 90 8 L (.int x0 :: .ref a :: st) μ n Q := x_callV (k' := 87) (as := [.int x0]) (na := 1) d90_8 ⟨w848, by decide +kernel, by decide, by decide, by decide, by decide, by decide⟩ cf9 w845 w847 wp28 (by decide +kernel) rfl hs (fun v hv => by
    simp only [List.mem_cons, List.not_mem_nil, or_false] at hv
    rcases hv with rfl <;> first | rfl | assumption) hst h
theorem s90_11 {S : Nat × (Nat → Int32)} {L : List (Option Value)} {st : List Value} {n : Nat} {Q : xQ} {μ : xM} {a : Nat} (hl : L[0]? = some (some (.ref a))) (h : x_V S 90 12 L (.ref a :: st) μ n Q) : x_V S 90 11 L (st) μ n Q := x_aload_n d90_11 hl h
theorem s90_11N {S : Nat × (Nat → Int32)} {L : List (Option Value)} {st : List Value} {n : Nat} {Q : xQ} {μ : xM} (hl : L[0]? = some (some .null)) (h : x_V S 90 12 L (.null :: st) μ n Q) : x_V S 90 11 L st μ n Q := x_aload_nN d90_11 hl h
theorem s90_12 {S : Nat × (Nat → Int32)} {L : List (Option Value)} {st : List Value} {n : Nat} {Q : xQ} {μ : xM} {x : Int32} (hl : L[2]? = some (some (.int x))) (h : x_V S 90 13 L (.int x :: st) μ n Q) : x_V S 90 12 L (st) μ n Q := x_iload_n d90_12 hl h
theorem s90_13 {S : Nat × (Nat → Int32)} {L : List (Option Value)} {st : List Value} {n : Nat} {Q : xQ} {μ : xM} {x0 : Int32} {a : Nat} (hs : x_sh a = (9, 39)) (hst : st.length ≤ 4) (h : x_V S 87 0 [some (.ref a), some (.int x0)] [] μ n (x_bk S 90 13 L st Q)) : x_V S 90 13 L (.int x0 :: .ref a :: st) μ n Q := x_callV (k' := 87) (as := [.int x0]) (na := 1) d90_13 ⟨w848, by decide +kernel, by decide, by decide, by decide, by decide, by decide⟩ cf9 w845 w847 wp28 (by decide +kernel) rfl hs (fun v hv => by
    simp only [List.mem_cons, List.not_mem_nil, or_false] at hv
    rcases hv with rfl <;> first | rfl | assumption) hst h
theorem s90_16 {S : Nat × (Nat → Int32)} {L : List (Option Value)} {st : List Value} {n : Nat} {Q : xQ} {μ : xM} {a : Nat} (hl : L[0]? = some (some (.ref a))) (h : x_V S 90 17 L (.ref a :: st) μ n Q) : x_V S 90 16 L (st) μ n Q := x_aload_n d90_16 hl h
theorem s90_16N {S : Nat × (Nat → Int32)} {L : List (Option Value)} {st : List Value} {n : Nat} {Q : xQ} {μ : xM} (hl : L[0]? = some (some .null)) (h : x_V S 90 17 L (.null :: st) μ n Q) : x_V S 90 16 L st μ n Q := x_aload_nN d90_16 hl h
theorem s90_17 {S : Nat × (Nat → Int32)} {L : List (Option Value)} {st : List Value} {n : Nat} {Q : xQ} {μ : xM}  (h : x_V S 90 18 L (.int (I 1) :: st) μ n Q) : x_V S 90 17 L (st) μ n Q := x_iconst (by decide +kernel) d90_17 h
theorem s90_18 {S : Nat × (Nat → Int32)} {L : List (Option Value)} {st : List Value} {n : Nat} {Q : xQ} {μ : xM} {x0 : Int32} {a : Nat} (hs : x_sh a = (9, 39)) (hst : st.length ≤ 4) (h : x_V S 87 0 [some (.ref a), some (.int x0)] [] μ n (x_bk S 90 18 L st Q)) : x_V S 90 18 L (.int x0 :: .ref a :: st) μ n Q := x_callV (k' := 87) (as := [.int x0]) (na := 1) d90_18 ⟨w848, by decide +kernel, by decide, by decide, by decide, by decide, by decide⟩ cf9 w845 w847 wp28 (by decide +kernel) rfl hs (fun v hv => by
    simp only [List.mem_cons, List.not_mem_nil, or_false] at hv
    rcases hv with rfl <;> first | rfl | assumption) hst h
theorem s90_21 {S : Nat × (Nat → Int32)} {L : List (Option Value)} {st : List Value} {n : Nat} {Q : xQ} {μ : xM}  (h : Q (.inl none) μ n) : x_V S 90 21 L ([]) μ n Q := x_return d90_21 rfl h
theorem mC_91 : mC 91 = prog_12_method_9_code := rfl
theorem d91_0 : decode (mC 91) 0 = .ok (.iconst 1, 1) := by rw [mC_91]; decide +kernel
theorem d91_1 : decode (mC 91) 1 = .ok (.istore_n 1, 1) := by rw [mC_91]; decide +kernel
theorem d91_2 : decode (mC 91) 2 = .ok (.iload_n 0, 1) := by rw [mC_91]; decide +kernel
theorem d91_3 : decode (mC 91) 3 = .ok (.istore_n 2, 1) := by rw [mC_91]; decide +kernel
theorem d91_4 : decode (mC 91) 4 = .ok (.iload_n 2, 1) := by rw [mC_91]; decide +kernel
theorem d91_5 : decode (mC 91) 5 = .ok (.bipush 9, 2) := by rw [mC_91]; decide +kernel
theorem d91_7 : decode (mC 91) 7 = .ok (.if_icmp .le 14, 3) := by rw [mC_91]; decide +kernel
theorem d91_10 : decode (mC 91) 10 = .ok (.iinc 1 1, 3) := by rw [mC_91]; decide +kernel
theorem d91_13 : decode (mC 91) 13 = .ok (.iload_n 2, 1) := by rw [mC_91]; decide +kernel
theorem d91_14 : decode (mC 91) 14 = .ok (.bipush 10, 2) := by rw [mC_91]; decide +kernel
theorem d91_16 : decode (mC 91) 16 = .ok (.idiv, 1) := by rw [mC_91]; decide +kernel
theorem d91_17 : decode (mC 91) 17 = .ok (.istore_n 2, 1) := by rw [mC_91]; decide +kernel
theorem d91_18 : decode (mC 91) 18 = .ok (.goto (-14), 3) := by rw [mC_91]; decide +kernel
theorem d91_21 : decode (mC 91) 21 = .ok (.iload_n 1, 1) := by rw [mC_91]; decide +kernel
theorem d91_22 : decode (mC 91) 22 = .ok (.ireturn, 1) := by rw [mC_91]; decide +kernel
theorem s91_0 {S : Nat × (Nat → Int32)} {L : List (Option Value)} {st : List Value} {n : Nat} {Q : xQ} {μ : xM}  (h : x_V S 91 1 L (.int (I 1) :: st) μ n Q) : x_V S 91 0 L (st) μ n Q := x_iconst (by decide +kernel) d91_0 h
theorem s91_1 {S : Nat × (Nat → Int32)} {L : List (Option Value)} {st : List Value} {n : Nat} {Q : xQ} {μ : xM} {x : Int32} (h : x_V S 91 2 (L.set 1 (some (.int x))) (st) μ n Q) : x_V S 91 1 L (.int x :: st) μ n Q := x_istore_n d91_1 (by decide) h
theorem s91_2 {S : Nat × (Nat → Int32)} {L : List (Option Value)} {st : List Value} {n : Nat} {Q : xQ} {μ : xM} {x : Int32} (hl : L[0]? = some (some (.int x))) (h : x_V S 91 3 L (.int x :: st) μ n Q) : x_V S 91 2 L (st) μ n Q := x_iload_n d91_2 hl h
theorem s91_3 {S : Nat × (Nat → Int32)} {L : List (Option Value)} {st : List Value} {n : Nat} {Q : xQ} {μ : xM} {x : Int32} (h : x_V S 91 4 (L.set 2 (some (.int x))) (st) μ n Q) : x_V S 91 3 L (.int x :: st) μ n Q := x_istore_n d91_3 (by decide) h
theorem s91_4 {S : Nat × (Nat → Int32)} {L : List (Option Value)} {st : List Value} {n : Nat} {Q : xQ} {μ : xM} {x : Int32} (hl : L[2]? = some (some (.int x))) (h : x_V S 91 5 L (.int x :: st) μ n Q) : x_V S 91 4 L (st) μ n Q := x_iload_n d91_4 hl h
theorem s91_5 {S : Nat × (Nat → Int32)} {L : List (Option Value)} {st : List Value} {n : Nat} {Q : xQ} {μ : xM}  (h : x_V S 91 7 L (.int (I 9) :: st) μ n Q) : x_V S 91 5 L (st) μ n Q := x_bipush (by decide +kernel) d91_5 h
theorem s91_7 {S : Nat × (Nat → Int32)} {L : List (Option Value)} {st : List Value} {n : Nat} {Q : xQ} {μ : xM} {x y : Int} (hx : ib x) (hy : ib y) (kt : x ≤ y → x_V S 91 21 L (st) μ n Q) (kf : y < x → x_V S 91 10 L (st) μ n Q) : x_V S 91 7 L (.int (I y) :: .int (I x) :: st) μ n Q := v_icmp_le d91_7 (by decide) hx hy kt kf
theorem s91_10 {S : Nat × (Nat → Int32)} {L : List (Option Value)} {st : List Value} {n : Nat} {Q : xQ} {μ : xM} {x : Int} (hl : L[1]? = some (some (.int (I x)))) (h : x_V S 91 13 (L.set 1 (some (.int (I (x + 1))))) (st) μ n Q) : x_V S 91 10 L (st) μ n Q := v_iinc d91_10 hl (by decide) h
theorem s91_13 {S : Nat × (Nat → Int32)} {L : List (Option Value)} {st : List Value} {n : Nat} {Q : xQ} {μ : xM} {x : Int32} (hl : L[2]? = some (some (.int x))) (h : x_V S 91 14 L (.int x :: st) μ n Q) : x_V S 91 13 L (st) μ n Q := x_iload_n d91_13 hl h
theorem s91_14 {S : Nat × (Nat → Int32)} {L : List (Option Value)} {st : List Value} {n : Nat} {Q : xQ} {μ : xM}  (h : x_V S 91 16 L (.int (I 10) :: st) μ n Q) : x_V S 91 14 L (st) μ n Q := x_bipush (by decide +kernel) d91_14 h
theorem s91_16 {S : Nat × (Nat → Int32)} {L : List (Option Value)} {st : List Value} {n : Nat} {Q : xQ} {μ : xM} {x y : Int} (hx : ib x) (hy : ib y) (hx0 : 0 ≤ x) (hy0 : 0 < y) (h : x_V S 91 17 L (.int (I (x / y)) :: st) μ n Q) : x_V S 91 16 L (.int (I y) :: .int (I x) :: st) μ n Q := v_idiv d91_16 hx hy hx0 hy0 h
theorem s91_17 {S : Nat × (Nat → Int32)} {L : List (Option Value)} {st : List Value} {n : Nat} {Q : xQ} {μ : xM} {x : Int32} (h : x_V S 91 18 (L.set 2 (some (.int x))) (st) μ n Q) : x_V S 91 17 L (.int x :: st) μ n Q := x_istore_n d91_17 (by decide) h
theorem s91_18 {S : Nat × (Nat → Int32)} {L : List (Option Value)} {st : List Value} {n : Nat} {Q : xQ} {μ : xM}  (h : x_V S 91 4 L (st) μ n Q) : x_V S 91 18 L (st) μ n Q := x_goto (tgt := 4) (by decide) d91_18 h
theorem s91_21 {S : Nat × (Nat → Int32)} {L : List (Option Value)} {st : List Value} {n : Nat} {Q : xQ} {μ : xM} {x : Int32} (hl : L[1]? = some (some (.int x))) (h : x_V S 91 22 L (.int x :: st) μ n Q) : x_V S 91 21 L (st) μ n Q := x_iload_n d91_21 hl h
theorem s91_22 {S : Nat × (Nat → Int32)} {L : List (Option Value)} {st : List Value} {n : Nat} {Q : xQ} {μ : xM} {x : Int32} (h : Q (.inl (some (.int x))) μ n) : x_V S 91 22 L (.int x :: []) μ n Q := x_ireturn d91_22 rfl rfl h
theorem mC_92 : mC 92 = prog_12_method_10_code := rfl
theorem d92_0 : decode (mC 92) 0 = .ok (.aload_n 0, 1) := by rw [mC_92]; decide +kernel
theorem d92_1 : decode (mC 92) 1 = .ok (.getfield 63, 3) := by rw [mC_92]; decide +kernel
theorem d92_4 : decode (mC 92) 4 = .ok (.ifCond .eq 12, 3) := by rw [mC_92]; decide +kernel
theorem d92_7 : decode (mC 92) 7 = .ok (.aload_n 0, 1) := by rw [mC_92]; decide +kernel
theorem d92_8 : decode (mC 92) 8 = .ok (.getfield 7, 3) := by rw [mC_92]; decide +kernel
theorem d92_11 : decode (mC 92) 11 = .ok (.iload_n 1, 1) := by rw [mC_92]; decide +kernel
theorem d92_12 : decode (mC 92) 12 = .ok (.iaload, 1) := by rw [mC_92]; decide +kernel
theorem d92_13 : decode (mC 92) 13 = .ok (.goto 30, 3) := by rw [mC_92]; decide +kernel
theorem d92_16 : decode (mC 92) 16 = .ok (.aload_n 0, 1) := by rw [mC_92]; decide +kernel
theorem d92_17 : decode (mC 92) 17 = .ok (.getfield 70, 3) := by rw [mC_92]; decide +kernel
theorem d92_20 : decode (mC 92) 20 = .ok (.bipush 20, 2) := by rw [mC_92]; decide +kernel
theorem d92_22 : decode (mC 92) 22 = .ok (.if_icmp .ge 20, 3) := by rw [mC_92]; decide +kernel
theorem d92_25 : decode (mC 92) 25 = .ok (.aload_n 0, 1) := by rw [mC_92]; decide +kernel
theorem d92_26 : decode (mC 92) 26 = .ok (.getfield 22, 3) := by rw [mC_92]; decide +kernel
theorem d92_29 : decode (mC 92) 29 = .ok (.bipush 120, 2) := by rw [mC_92]; decide +kernel
theorem d92_31 : decode (mC 92) 31 = .ok (.aload_n 0, 1) := by rw [mC_92]; decide +kernel
theorem d92_32 : decode (mC 92) 32 = .ok (.getfield 70, 3) := by rw [mC_92]; decide +kernel
theorem d92_35 : decode (mC 92) 35 = .ok (.imul, 1) := by rw [mC_92]; decide +kernel
theorem d92_36 : decode (mC 92) 36 = .ok (.iload_n 1, 1) := by rw [mC_92]; decide +kernel
theorem d92_37 : decode (mC 92) 37 = .ok (.iadd, 1) := by rw [mC_92]; decide +kernel
theorem d92_38 : decode (mC 92) 38 = .ok (.iaload, 1) := by rw [mC_92]; decide +kernel
theorem d92_39 : decode (mC 92) 39 = .ok (.goto 4, 3) := by rw [mC_92]; decide +kernel
theorem d92_42 : decode (mC 92) 42 = .ok (.iconst 0, 1) := by rw [mC_92]; decide +kernel
theorem d92_43 : decode (mC 92) 43 = .ok (.ireturn, 1) := by rw [mC_92]; decide +kernel
theorem s92_0 {S : Nat × (Nat → Int32)} {L : List (Option Value)} {st : List Value} {n : Nat} {Q : xQ} {μ : xM} {a : Nat} (hl : L[0]? = some (some (.ref a))) (h : x_V S 92 1 L (.ref a :: st) μ n Q) : x_V S 92 0 L (st) μ n Q := x_aload_n d92_0 hl h
theorem s92_0N {S : Nat × (Nat → Int32)} {L : List (Option Value)} {st : List Value} {n : Nat} {Q : xQ} {μ : xM} (hl : L[0]? = some (some .null)) (h : x_V S 92 1 L (.null :: st) μ n Q) : x_V S 92 0 L st μ n Q := x_aload_nN d92_0 hl h
theorem s92_1 {S : Nat × (Nat → Int32)} {L : List (Option Value)} {st : List Value} {n : Nat} {Q : xQ} {g : Nat → Nat → Int} {a : Nat} (hs : x_sh a = (9, 39)) (hp : x_pt a 38 = none) (ha : a ≠ x_out) (h : x_V S 92 4 L (.int (I (g a 38)) :: st) (x_vm g) n Q) : x_V S 92 1 L (.ref a :: st) (x_vm g) n Q := v_get (i := 38) cf9 d92_1 (by decide) w733 hs hp ha h
theorem s92_4 {S : Nat × (Nat → Int32)} {L : List (Option Value)} {st : List Value} {n : Nat} {Q : xQ} {μ : xM} {x : Int} (hx : ib x) (kt : x = 0 → x_V S 92 16 L (st) μ n Q) (kf : x ≠ 0 → x_V S 92 7 L (st) μ n Q) : x_V S 92 4 L (.int (I x) :: st) μ n Q := v_if_eq d92_4 (by decide) hx kt kf
theorem s92_7 {S : Nat × (Nat → Int32)} {L : List (Option Value)} {st : List Value} {n : Nat} {Q : xQ} {μ : xM} {a : Nat} (hl : L[0]? = some (some (.ref a))) (h : x_V S 92 8 L (.ref a :: st) μ n Q) : x_V S 92 7 L (st) μ n Q := x_aload_n d92_7 hl h
theorem s92_7N {S : Nat × (Nat → Int32)} {L : List (Option Value)} {st : List Value} {n : Nat} {Q : xQ} {μ : xM} (hl : L[0]? = some (some .null)) (h : x_V S 92 8 L (.null :: st) μ n Q) : x_V S 92 7 L st μ n Q := x_aload_nN d92_7 hl h
theorem s92_8 {S : Nat × (Nat → Int32)} {L : List (Option Value)} {st : List Value} {n : Nat} {Q : xQ} {g : Nat → Nat → Int} {a : Nat} {v : Value} (hs : x_sh a = (9, 39)) (hp : x_pt a 3 = some v) (h : x_V S 92 11 L (v :: st) (x_vm g) n Q) : x_V S 92 8 L (.ref a :: st) (x_vm g) n Q := v_getp (i := 3) cf9 d92_8 (by decide) w698 hs hp h
theorem s92_11 {S : Nat × (Nat → Int32)} {L : List (Option Value)} {st : List Value} {n : Nat} {Q : xQ} {μ : xM} {x : Int32} (hl : L[1]? = some (some (.int x))) (h : x_V S 92 12 L (.int x :: st) μ n Q) : x_V S 92 11 L (st) μ n Q := x_iload_n d92_11 hl h
theorem s92_13 {S : Nat × (Nat → Int32)} {L : List (Option Value)} {st : List Value} {n : Nat} {Q : xQ} {μ : xM}  (h : x_V S 92 43 L (st) μ n Q) : x_V S 92 13 L (st) μ n Q := x_goto (tgt := 43) (by decide) d92_13 h
theorem s92_16 {S : Nat × (Nat → Int32)} {L : List (Option Value)} {st : List Value} {n : Nat} {Q : xQ} {μ : xM} {a : Nat} (hl : L[0]? = some (some (.ref a))) (h : x_V S 92 17 L (.ref a :: st) μ n Q) : x_V S 92 16 L (st) μ n Q := x_aload_n d92_16 hl h
theorem s92_16N {S : Nat × (Nat → Int32)} {L : List (Option Value)} {st : List Value} {n : Nat} {Q : xQ} {μ : xM} (hl : L[0]? = some (some .null)) (h : x_V S 92 17 L (.null :: st) μ n Q) : x_V S 92 16 L st μ n Q := x_aload_nN d92_16 hl h
theorem s92_17 {S : Nat × (Nat → Int32)} {L : List (Option Value)} {st : List Value} {n : Nat} {Q : xQ} {g : Nat → Nat → Int} {a : Nat} (hs : x_sh a = (9, 39)) (hp : x_pt a 15 = none) (ha : a ≠ x_out) (h : x_V S 92 20 L (.int (I (g a 15)) :: st) (x_vm g) n Q) : x_V S 92 17 L (.ref a :: st) (x_vm g) n Q := v_get (i := 15) cf9 d92_17 (by decide) w710 hs hp ha h
theorem s92_20 {S : Nat × (Nat → Int32)} {L : List (Option Value)} {st : List Value} {n : Nat} {Q : xQ} {μ : xM}  (h : x_V S 92 22 L (.int (I 20) :: st) μ n Q) : x_V S 92 20 L (st) μ n Q := x_bipush (by decide +kernel) d92_20 h
theorem s92_22 {S : Nat × (Nat → Int32)} {L : List (Option Value)} {st : List Value} {n : Nat} {Q : xQ} {μ : xM} {x y : Int} (hx : ib x) (hy : ib y) (kt : y ≤ x → x_V S 92 42 L (st) μ n Q) (kf : x < y → x_V S 92 25 L (st) μ n Q) : x_V S 92 22 L (.int (I y) :: .int (I x) :: st) μ n Q := v_icmp_ge d92_22 (by decide) hx hy kt kf
theorem s92_25 {S : Nat × (Nat → Int32)} {L : List (Option Value)} {st : List Value} {n : Nat} {Q : xQ} {μ : xM} {a : Nat} (hl : L[0]? = some (some (.ref a))) (h : x_V S 92 26 L (.ref a :: st) μ n Q) : x_V S 92 25 L (st) μ n Q := x_aload_n d92_25 hl h
theorem s92_25N {S : Nat × (Nat → Int32)} {L : List (Option Value)} {st : List Value} {n : Nat} {Q : xQ} {μ : xM} (hl : L[0]? = some (some .null)) (h : x_V S 92 26 L (.null :: st) μ n Q) : x_V S 92 25 L st μ n Q := x_aload_nN d92_25 hl h
theorem s92_26 {S : Nat × (Nat → Int32)} {L : List (Option Value)} {st : List Value} {n : Nat} {Q : xQ} {g : Nat → Nat → Int} {a : Nat} {v : Value} (hs : x_sh a = (9, 39)) (hp : x_pt a 16 = some v) (h : x_V S 92 29 L (v :: st) (x_vm g) n Q) : x_V S 92 26 L (.ref a :: st) (x_vm g) n Q := v_getp (i := 16) cf9 d92_26 (by decide) w711 hs hp h
theorem s92_29 {S : Nat × (Nat → Int32)} {L : List (Option Value)} {st : List Value} {n : Nat} {Q : xQ} {μ : xM}  (h : x_V S 92 31 L (.int (I 120) :: st) μ n Q) : x_V S 92 29 L (st) μ n Q := x_bipush (by decide +kernel) d92_29 h
theorem s92_31 {S : Nat × (Nat → Int32)} {L : List (Option Value)} {st : List Value} {n : Nat} {Q : xQ} {μ : xM} {a : Nat} (hl : L[0]? = some (some (.ref a))) (h : x_V S 92 32 L (.ref a :: st) μ n Q) : x_V S 92 31 L (st) μ n Q := x_aload_n d92_31 hl h
theorem s92_31N {S : Nat × (Nat → Int32)} {L : List (Option Value)} {st : List Value} {n : Nat} {Q : xQ} {μ : xM} (hl : L[0]? = some (some .null)) (h : x_V S 92 32 L (.null :: st) μ n Q) : x_V S 92 31 L st μ n Q := x_aload_nN d92_31 hl h
theorem s92_32 {S : Nat × (Nat → Int32)} {L : List (Option Value)} {st : List Value} {n : Nat} {Q : xQ} {g : Nat → Nat → Int} {a : Nat} (hs : x_sh a = (9, 39)) (hp : x_pt a 15 = none) (ha : a ≠ x_out) (h : x_V S 92 35 L (.int (I (g a 15)) :: st) (x_vm g) n Q) : x_V S 92 32 L (.ref a :: st) (x_vm g) n Q := v_get (i := 15) cf9 d92_32 (by decide) w710 hs hp ha h
theorem s92_35 {S : Nat × (Nat → Int32)} {L : List (Option Value)} {st : List Value} {n : Nat} {Q : xQ} {μ : xM} {x y : Int} (h : x_V S 92 36 L (.int (I (x * y)) :: st) μ n Q) : x_V S 92 35 L (.int (I y) :: .int (I x) :: st) μ n Q := v_imul d92_35 h
theorem s92_36 {S : Nat × (Nat → Int32)} {L : List (Option Value)} {st : List Value} {n : Nat} {Q : xQ} {μ : xM} {x : Int32} (hl : L[1]? = some (some (.int x))) (h : x_V S 92 37 L (.int x :: st) μ n Q) : x_V S 92 36 L (st) μ n Q := x_iload_n d92_36 hl h
theorem s92_37 {S : Nat × (Nat → Int32)} {L : List (Option Value)} {st : List Value} {n : Nat} {Q : xQ} {μ : xM} {x y : Int} (h : x_V S 92 38 L (.int (I (x + y)) :: st) μ n Q) : x_V S 92 37 L (.int (I y) :: .int (I x) :: st) μ n Q := v_iadd d92_37 h
theorem s92_39 {S : Nat × (Nat → Int32)} {L : List (Option Value)} {st : List Value} {n : Nat} {Q : xQ} {μ : xM}  (h : x_V S 92 43 L (st) μ n Q) : x_V S 92 39 L (st) μ n Q := x_goto (tgt := 43) (by decide) d92_39 h
theorem s92_42 {S : Nat × (Nat → Int32)} {L : List (Option Value)} {st : List Value} {n : Nat} {Q : xQ} {μ : xM}  (h : x_V S 92 43 L (.int (I 0) :: st) μ n Q) : x_V S 92 42 L (st) μ n Q := x_iconst (by decide +kernel) d92_42 h
theorem s92_43 {S : Nat × (Nat → Int32)} {L : List (Option Value)} {st : List Value} {n : Nat} {Q : xQ} {μ : xM} {x : Int32} (h : Q (.inl (some (.int x))) μ n) : x_V S 92 43 L (.int x :: []) μ n Q := x_ireturn d92_43 rfl rfl h
theorem mC_93 : mC 93 = prog_12_method_11_code := rfl
theorem d93_0 : decode (mC 93) 0 = .ok (.iload_n 0, 1) := by rw [mC_93]; decide +kernel
theorem d93_1 : decode (mC 93) 1 = .ok (.invokestatic 83, 3) := by rw [mC_93]; decide +kernel
theorem d93_4 : decode (mC 93) 4 = .ok (.iload_n 1, 1) := by rw [mC_93]; decide +kernel
theorem d93_5 : decode (mC 93) 5 = .ok (.invokestatic 83, 3) := by rw [mC_93]; decide +kernel
theorem d93_8 : decode (mC 93) 8 = .ok (.iadd, 1) := by rw [mC_93]; decide +kernel
theorem d93_9 : decode (mC 93) 9 = .ok (.iconst 2, 1) := by rw [mC_93]; decide +kernel
theorem d93_10 : decode (mC 93) 10 = .ok (.iadd, 1) := by rw [mC_93]; decide +kernel
theorem d93_11 : decode (mC 93) 11 = .ok (.ireturn, 1) := by rw [mC_93]; decide +kernel
theorem s93_0 {S : Nat × (Nat → Int32)} {L : List (Option Value)} {st : List Value} {n : Nat} {Q : xQ} {μ : xM} {x : Int32} (hl : L[0]? = some (some (.int x))) (h : x_V S 93 1 L (.int x :: st) μ n Q) : x_V S 93 0 L (st) μ n Q := x_iload_n d93_0 hl h
theorem s93_1 {S : Nat × (Nat → Int32)} {L : List (Option Value)} {st : List Value} {n : Nat} {Q : xQ} {μ : xM} {x0 : Int32} (hst : st.length ≤ 4) (h : x_V S 91 0 [some (.int x0), none, none] [] μ n (x_bk S 93 1 L st Q)) : x_V S 93 1 L (.int x0 :: st) μ n Q := x_callS (k' := 91) (as := [.int x0]) (na := 1) d93_1 ⟨w854, by decide +kernel, by decide, by decide, by decide, by decide, by decide⟩ w852 w853 w10 (by decide +kernel) rfl (fun v hv => by
    simp only [List.mem_cons, List.not_mem_nil, or_false] at hv
    rcases hv with rfl <;> first | rfl | assumption) hst h
theorem s93_4 {S : Nat × (Nat → Int32)} {L : List (Option Value)} {st : List Value} {n : Nat} {Q : xQ} {μ : xM} {x : Int32} (hl : L[1]? = some (some (.int x))) (h : x_V S 93 5 L (.int x :: st) μ n Q) : x_V S 93 4 L (st) μ n Q := x_iload_n d93_4 hl h
theorem s93_5 {S : Nat × (Nat → Int32)} {L : List (Option Value)} {st : List Value} {n : Nat} {Q : xQ} {μ : xM} {x0 : Int32} (hst : st.length ≤ 4) (h : x_V S 91 0 [some (.int x0), none, none] [] μ n (x_bk S 93 5 L st Q)) : x_V S 93 5 L (.int x0 :: st) μ n Q := x_callS (k' := 91) (as := [.int x0]) (na := 1) d93_5 ⟨w854, by decide +kernel, by decide, by decide, by decide, by decide, by decide⟩ w852 w853 w10 (by decide +kernel) rfl (fun v hv => by
    simp only [List.mem_cons, List.not_mem_nil, or_false] at hv
    rcases hv with rfl <;> first | rfl | assumption) hst h
theorem s93_8 {S : Nat × (Nat → Int32)} {L : List (Option Value)} {st : List Value} {n : Nat} {Q : xQ} {μ : xM} {x y : Int} (h : x_V S 93 9 L (.int (I (x + y)) :: st) μ n Q) : x_V S 93 8 L (.int (I y) :: .int (I x) :: st) μ n Q := v_iadd d93_8 h
theorem s93_9 {S : Nat × (Nat → Int32)} {L : List (Option Value)} {st : List Value} {n : Nat} {Q : xQ} {μ : xM}  (h : x_V S 93 10 L (.int (I 2) :: st) μ n Q) : x_V S 93 9 L (st) μ n Q := x_iconst (by decide +kernel) d93_9 h
theorem s93_10 {S : Nat × (Nat → Int32)} {L : List (Option Value)} {st : List Value} {n : Nat} {Q : xQ} {μ : xM} {x y : Int} (h : x_V S 93 11 L (.int (I (x + y)) :: st) μ n Q) : x_V S 93 10 L (.int (I y) :: .int (I x) :: st) μ n Q := v_iadd d93_10 h
theorem s93_11 {S : Nat × (Nat → Int32)} {L : List (Option Value)} {st : List Value} {n : Nat} {Q : xQ} {μ : xM} {x : Int32} (h : Q (.inl (some (.int x))) μ n) : x_V S 93 11 L (.int x :: []) μ n Q := x_ireturn d93_11 rfl rfl h
theorem mC_94 : mC 94 = prog_12_method_12_code := rfl
theorem d94_0 : decode (mC 94) 0 = .ok (.iconst 0, 1) := by rw [mC_94]; decide +kernel
theorem d94_1 : decode (mC 94) 1 = .ok (.istore 7, 2) := by rw [mC_94]; decide +kernel
theorem d94_3 : decode (mC 94) 3 = .ok (.iconst 0, 1) := by rw [mC_94]; decide +kernel
theorem d94_4 : decode (mC 94) 4 = .ok (.istore 8, 2) := by rw [mC_94]; decide +kernel
theorem d94_6 : decode (mC 94) 6 = .ok (.iload 8, 2) := by rw [mC_94]; decide +kernel
theorem d94_8 : decode (mC 94) 8 = .ok (.iconst 4, 1) := by rw [mC_94]; decide +kernel
theorem d94_9 : decode (mC 94) 9 = .ok (.if_icmp .ge 158, 3) := by rw [mC_94]; decide +kernel
theorem d94_12 : decode (mC 94) 12 = .ok (.iload_n 1, 1) := by rw [mC_94]; decide +kernel
theorem d94_13 : decode (mC 94) 13 = .ok (.iload 8, 2) := by rw [mC_94]; decide +kernel
theorem d94_15 : decode (mC 94) 15 = .ok (.invokestatic 87, 3) := by rw [mC_94]; decide +kernel
theorem d94_18 : decode (mC 94) 18 = .ok (.istore 9, 2) := by rw [mC_94]; decide +kernel
theorem d94_20 : decode (mC 94) 20 = .ok (.iload 8, 2) := by rw [mC_94]; decide +kernel
theorem d94_22 : decode (mC 94) 22 = .ok (.ifCond .ne 7, 3) := by rw [mC_94]; decide +kernel
theorem d94_25 : decode (mC 94) 25 = .ok (.iload_n 2, 1) := by rw [mC_94]; decide +kernel
theorem d94_26 : decode (mC 94) 26 = .ok (.goto 26, 3) := by rw [mC_94]; decide +kernel
theorem d94_29 : decode (mC 94) 29 = .ok (.iload 8, 2) := by rw [mC_94]; decide +kernel
theorem d94_31 : decode (mC 94) 31 = .ok (.iconst 1, 1) := by rw [mC_94]; decide +kernel
theorem d94_32 : decode (mC 94) 32 = .ok (.if_icmp .ne 7, 3) := by rw [mC_94]; decide +kernel
theorem d94_35 : decode (mC 94) 35 = .ok (.iload_n 3, 1) := by rw [mC_94]; decide +kernel
theorem d94_36 : decode (mC 94) 36 = .ok (.goto 16, 3) := by rw [mC_94]; decide +kernel
theorem d94_39 : decode (mC 94) 39 = .ok (.iload 8, 2) := by rw [mC_94]; decide +kernel
theorem d94_41 : decode (mC 94) 41 = .ok (.iconst 2, 1) := by rw [mC_94]; decide +kernel
theorem d94_42 : decode (mC 94) 42 = .ok (.if_icmp .ne 8, 3) := by rw [mC_94]; decide +kernel
theorem d94_45 : decode (mC 94) 45 = .ok (.iload 4, 2) := by rw [mC_94]; decide +kernel
theorem d94_47 : decode (mC 94) 47 = .ok (.goto 5, 3) := by rw [mC_94]; decide +kernel
theorem d94_50 : decode (mC 94) 50 = .ok (.iload 5, 2) := by rw [mC_94]; decide +kernel
theorem d94_52 : decode (mC 94) 52 = .ok (.istore 10, 2) := by rw [mC_94]; decide +kernel
theorem d94_54 : decode (mC 94) 54 = .ok (.iload_n 1, 1) := by rw [mC_94]; decide +kernel
theorem d94_55 : decode (mC 94) 55 = .ok (.bipush 52, 2) := by rw [mC_94]; decide +kernel
theorem d94_57 : decode (mC 94) 57 = .ok (.if_icmp .ne 9, 3) := by rw [mC_94]; decide +kernel
theorem d94_60 : decode (mC 94) 60 = .ok (.iload 8, 2) := by rw [mC_94]; decide +kernel
theorem d94_62 : decode (mC 94) 62 = .ok (.iconst 1, 1) := by rw [mC_94]; decide +kernel
theorem d94_63 : decode (mC 94) 63 = .ok (.if_icmp .eq 15, 3) := by rw [mC_94]; decide +kernel
theorem d94_66 : decode (mC 94) 66 = .ok (.iload_n 1, 1) := by rw [mC_94]; decide +kernel
theorem d94_67 : decode (mC 94) 67 = .ok (.bipush 56, 2) := by rw [mC_94]; decide +kernel
theorem d94_69 : decode (mC 94) 69 = .ok (.if_icmp .ne 13, 3) := by rw [mC_94]; decide +kernel
theorem d94_72 : decode (mC 94) 72 = .ok (.iload 8, 2) := by rw [mC_94]; decide +kernel
theorem d94_74 : decode (mC 94) 74 = .ok (.iconst 1, 1) := by rw [mC_94]; decide +kernel
theorem d94_75 : decode (mC 94) 75 = .ok (.if_icmp .ne 7, 3) := by rw [mC_94]; decide +kernel
theorem d94_78 : decode (mC 94) 78 = .ok (.iconst 1, 1) := by rw [mC_94]; decide +kernel
theorem d94_79 : decode (mC 94) 79 = .ok (.goto 4, 3) := by rw [mC_94]; decide +kernel
theorem d94_82 : decode (mC 94) 82 = .ok (.iconst 0, 1) := by rw [mC_94]; decide +kernel
theorem d94_83 : decode (mC 94) 83 = .ok (.istore 11, 2) := by rw [mC_94]; decide +kernel
theorem d94_85 : decode (mC 94) 85 = .ok (.iload 9, 2) := by rw [mC_94]; decide +kernel
theorem d94_87 : decode (mC 94) 87 = .ok (.ifCond .eq 8, 3) := by rw [mC_94]; decide +kernel
theorem d94_90 : decode (mC 94) 90 = .ok (.iload 10, 2) := by rw [mC_94]; decide +kernel
theorem d94_92 : decode (mC 94) 92 = .ok (.ifCond .ge 6, 3) := by rw [mC_94]; decide +kernel
theorem d94_95 : decode (mC 94) 95 = .ok (.iload 7, 2) := by rw [mC_94]; decide +kernel
theorem d94_97 : decode (mC 94) 97 = .ok (.ireturn, 1) := by rw [mC_94]; decide +kernel
theorem d94_98 : decode (mC 94) 98 = .ok (.iload 7, 2) := by rw [mC_94]; decide +kernel
theorem d94_100 : decode (mC 94) 100 = .ok (.iload 11, 2) := by rw [mC_94]; decide +kernel
theorem d94_102 : decode (mC 94) 102 = .ok (.ifCond .eq 13, 3) := by rw [mC_94]; decide +kernel
theorem d94_105 : decode (mC 94) 105 = .ok (.iload 9, 2) := by rw [mC_94]; decide +kernel
theorem d94_107 : decode (mC 94) 107 = .ok (.invokestatic 83, 3) := by rw [mC_94]; decide +kernel
theorem d94_110 : decode (mC 94) 110 = .ok (.iconst 3, 1) := by rw [mC_94]; decide +kernel
theorem d94_111 : decode (mC 94) 111 = .ok (.iadd, 1) := by rw [mC_94]; decide +kernel
theorem d94_112 : decode (mC 94) 112 = .ok (.goto 10, 3) := by rw [mC_94]; decide +kernel
theorem d94_115 : decode (mC 94) 115 = .ok (.iload 9, 2) := by rw [mC_94]; decide +kernel
theorem d94_117 : decode (mC 94) 117 = .ok (.iload 10, 2) := by rw [mC_94]; decide +kernel
theorem d94_119 : decode (mC 94) 119 = .ok (.invokestatic 91, 3) := by rw [mC_94]; decide +kernel
theorem d94_122 : decode (mC 94) 122 = .ok (.iadd, 1) := by rw [mC_94]; decide +kernel
theorem d94_123 : decode (mC 94) 123 = .ok (.istore 7, 2) := by rw [mC_94]; decide +kernel
theorem d94_125 : decode (mC 94) 125 = .ok (.iload 6, 2) := by rw [mC_94]; decide +kernel
theorem d94_127 : decode (mC 94) 127 = .ok (.ifCond .eq 16, 3) := by rw [mC_94]; decide +kernel
theorem d94_130 : decode (mC 94) 130 = .ok (.iload 11, 2) := by rw [mC_94]; decide +kernel
theorem d94_132 : decode (mC 94) 132 = .ok (.ifCond .eq 11, 3) := by rw [mC_94]; decide +kernel
theorem d94_135 : decode (mC 94) 135 = .ok (.aload_n 0, 1) := by rw [mC_94]; decide +kernel
theorem d94_136 : decode (mC 94) 136 = .ok (.iload 9, 2) := by rw [mC_94]; decide +kernel
theorem d94_138 : decode (mC 94) 138 = .ok (.iload 10, 2) := by rw [mC_94]; decide +kernel
theorem d94_140 : decode (mC 94) 140 = .ok (.invokevirtual 94, 3) := by rw [mC_94]; decide +kernel
theorem d94_143 : decode (mC 94) 143 = .ok (.iload 6, 2) := by rw [mC_94]; decide +kernel
theorem d94_145 : decode (mC 94) 145 = .ok (.ifCond .eq 16, 3) := by rw [mC_94]; decide +kernel
theorem d94_148 : decode (mC 94) 148 = .ok (.iload 11, 2) := by rw [mC_94]; decide +kernel
theorem d94_150 : decode (mC 94) 150 = .ok (.ifCond .ne 11, 3) := by rw [mC_94]; decide +kernel
theorem d94_153 : decode (mC 94) 153 = .ok (.aload_n 0, 1) := by rw [mC_94]; decide +kernel
theorem d94_154 : decode (mC 94) 154 = .ok (.iload 9, 2) := by rw [mC_94]; decide +kernel
theorem d94_156 : decode (mC 94) 156 = .ok (.iload 10, 2) := by rw [mC_94]; decide +kernel
theorem d94_158 : decode (mC 94) 158 = .ok (.invokevirtual 98, 3) := by rw [mC_94]; decide +kernel
theorem d94_161 : decode (mC 94) 161 = .ok (.iinc 8 1, 3) := by rw [mC_94]; decide +kernel
theorem d94_164 : decode (mC 94) 164 = .ok (.goto (-158), 3) := by rw [mC_94]; decide +kernel
theorem d94_167 : decode (mC 94) 167 = .ok (.iload 7, 2) := by rw [mC_94]; decide +kernel
theorem d94_169 : decode (mC 94) 169 = .ok (.ireturn, 1) := by rw [mC_94]; decide +kernel
theorem s94_0 {S : Nat × (Nat → Int32)} {L : List (Option Value)} {st : List Value} {n : Nat} {Q : xQ} {μ : xM}  (h : x_V S 94 1 L (.int (I 0) :: st) μ n Q) : x_V S 94 0 L (st) μ n Q := x_iconst (by decide +kernel) d94_0 h
theorem s94_1 {S : Nat × (Nat → Int32)} {L : List (Option Value)} {st : List Value} {n : Nat} {Q : xQ} {μ : xM} {x : Int32} (h : x_V S 94 3 (L.set 7 (some (.int x))) (st) μ n Q) : x_V S 94 1 L (.int x :: st) μ n Q := x_istore d94_1 (by decide) h
theorem s94_3 {S : Nat × (Nat → Int32)} {L : List (Option Value)} {st : List Value} {n : Nat} {Q : xQ} {μ : xM}  (h : x_V S 94 4 L (.int (I 0) :: st) μ n Q) : x_V S 94 3 L (st) μ n Q := x_iconst (by decide +kernel) d94_3 h
theorem s94_4 {S : Nat × (Nat → Int32)} {L : List (Option Value)} {st : List Value} {n : Nat} {Q : xQ} {μ : xM} {x : Int32} (h : x_V S 94 6 (L.set 8 (some (.int x))) (st) μ n Q) : x_V S 94 4 L (.int x :: st) μ n Q := x_istore d94_4 (by decide) h
theorem s94_6 {S : Nat × (Nat → Int32)} {L : List (Option Value)} {st : List Value} {n : Nat} {Q : xQ} {μ : xM} {x : Int32} (hl : L[8]? = some (some (.int x))) (h : x_V S 94 8 L (.int x :: st) μ n Q) : x_V S 94 6 L (st) μ n Q := x_iload d94_6 hl h
theorem s94_8 {S : Nat × (Nat → Int32)} {L : List (Option Value)} {st : List Value} {n : Nat} {Q : xQ} {μ : xM}  (h : x_V S 94 9 L (.int (I 4) :: st) μ n Q) : x_V S 94 8 L (st) μ n Q := x_iconst (by decide +kernel) d94_8 h
theorem s94_9 {S : Nat × (Nat → Int32)} {L : List (Option Value)} {st : List Value} {n : Nat} {Q : xQ} {μ : xM} {x y : Int} (hx : ib x) (hy : ib y) (kt : y ≤ x → x_V S 94 167 L (st) μ n Q) (kf : x < y → x_V S 94 12 L (st) μ n Q) : x_V S 94 9 L (.int (I y) :: .int (I x) :: st) μ n Q := v_icmp_ge d94_9 (by decide) hx hy kt kf
theorem s94_12 {S : Nat × (Nat → Int32)} {L : List (Option Value)} {st : List Value} {n : Nat} {Q : xQ} {μ : xM} {x : Int32} (hl : L[1]? = some (some (.int x))) (h : x_V S 94 13 L (.int x :: st) μ n Q) : x_V S 94 12 L (st) μ n Q := x_iload_n d94_12 hl h
theorem s94_13 {S : Nat × (Nat → Int32)} {L : List (Option Value)} {st : List Value} {n : Nat} {Q : xQ} {μ : xM} {x : Int32} (hl : L[8]? = some (some (.int x))) (h : x_V S 94 15 L (.int x :: st) μ n Q) : x_V S 94 13 L (st) μ n Q := x_iload d94_13 hl h
theorem s94_15 {S : Nat × (Nat → Int32)} {L : List (Option Value)} {st : List Value} {n : Nat} {Q : xQ} {μ : xM} {x0 : Int32} {x1 : Int32} (hst : st.length ≤ 4) (h : x_V S 95 0 [some (.int x0), some (.int x1)] [] μ n (x_bk S 94 15 L st Q)) : x_V S 94 15 L (.int x1 :: .int x0 :: st) μ n Q := x_callS (k' := 95) (as := [.int x0, .int x1]) (na := 2) d94_15 ⟨w861, by decide +kernel, by decide, by decide, by decide, by decide, by decide⟩ w859 w860 w10 (by decide +kernel) rfl (fun v hv => by
    simp only [List.mem_cons, List.not_mem_nil, or_false] at hv
    rcases hv with rfl | rfl <;> first | rfl | assumption) hst h
theorem s94_18 {S : Nat × (Nat → Int32)} {L : List (Option Value)} {st : List Value} {n : Nat} {Q : xQ} {μ : xM} {x : Int32} (h : x_V S 94 20 (L.set 9 (some (.int x))) (st) μ n Q) : x_V S 94 18 L (.int x :: st) μ n Q := x_istore d94_18 (by decide) h
theorem s94_20 {S : Nat × (Nat → Int32)} {L : List (Option Value)} {st : List Value} {n : Nat} {Q : xQ} {μ : xM} {x : Int32} (hl : L[8]? = some (some (.int x))) (h : x_V S 94 22 L (.int x :: st) μ n Q) : x_V S 94 20 L (st) μ n Q := x_iload d94_20 hl h
theorem s94_22 {S : Nat × (Nat → Int32)} {L : List (Option Value)} {st : List Value} {n : Nat} {Q : xQ} {μ : xM} {x : Int} (hx : ib x) (kt : x ≠ 0 → x_V S 94 29 L (st) μ n Q) (kf : x = 0 → x_V S 94 25 L (st) μ n Q) : x_V S 94 22 L (.int (I x) :: st) μ n Q := v_if_ne d94_22 (by decide) hx kt kf
theorem s94_25 {S : Nat × (Nat → Int32)} {L : List (Option Value)} {st : List Value} {n : Nat} {Q : xQ} {μ : xM} {x : Int32} (hl : L[2]? = some (some (.int x))) (h : x_V S 94 26 L (.int x :: st) μ n Q) : x_V S 94 25 L (st) μ n Q := x_iload_n d94_25 hl h
theorem s94_26 {S : Nat × (Nat → Int32)} {L : List (Option Value)} {st : List Value} {n : Nat} {Q : xQ} {μ : xM}  (h : x_V S 94 52 L (st) μ n Q) : x_V S 94 26 L (st) μ n Q := x_goto (tgt := 52) (by decide) d94_26 h
theorem s94_29 {S : Nat × (Nat → Int32)} {L : List (Option Value)} {st : List Value} {n : Nat} {Q : xQ} {μ : xM} {x : Int32} (hl : L[8]? = some (some (.int x))) (h : x_V S 94 31 L (.int x :: st) μ n Q) : x_V S 94 29 L (st) μ n Q := x_iload d94_29 hl h
theorem s94_31 {S : Nat × (Nat → Int32)} {L : List (Option Value)} {st : List Value} {n : Nat} {Q : xQ} {μ : xM}  (h : x_V S 94 32 L (.int (I 1) :: st) μ n Q) : x_V S 94 31 L (st) μ n Q := x_iconst (by decide +kernel) d94_31 h
theorem s94_32 {S : Nat × (Nat → Int32)} {L : List (Option Value)} {st : List Value} {n : Nat} {Q : xQ} {μ : xM} {x y : Int} (hx : ib x) (hy : ib y) (kt : x ≠ y → x_V S 94 39 L (st) μ n Q) (kf : x = y → x_V S 94 35 L (st) μ n Q) : x_V S 94 32 L (.int (I y) :: .int (I x) :: st) μ n Q := v_icmp_ne d94_32 (by decide) hx hy kt kf
theorem s94_35 {S : Nat × (Nat → Int32)} {L : List (Option Value)} {st : List Value} {n : Nat} {Q : xQ} {μ : xM} {x : Int32} (hl : L[3]? = some (some (.int x))) (h : x_V S 94 36 L (.int x :: st) μ n Q) : x_V S 94 35 L (st) μ n Q := x_iload_n d94_35 hl h
theorem s94_36 {S : Nat × (Nat → Int32)} {L : List (Option Value)} {st : List Value} {n : Nat} {Q : xQ} {μ : xM}  (h : x_V S 94 52 L (st) μ n Q) : x_V S 94 36 L (st) μ n Q := x_goto (tgt := 52) (by decide) d94_36 h
theorem s94_39 {S : Nat × (Nat → Int32)} {L : List (Option Value)} {st : List Value} {n : Nat} {Q : xQ} {μ : xM} {x : Int32} (hl : L[8]? = some (some (.int x))) (h : x_V S 94 41 L (.int x :: st) μ n Q) : x_V S 94 39 L (st) μ n Q := x_iload d94_39 hl h
theorem s94_41 {S : Nat × (Nat → Int32)} {L : List (Option Value)} {st : List Value} {n : Nat} {Q : xQ} {μ : xM}  (h : x_V S 94 42 L (.int (I 2) :: st) μ n Q) : x_V S 94 41 L (st) μ n Q := x_iconst (by decide +kernel) d94_41 h
theorem s94_42 {S : Nat × (Nat → Int32)} {L : List (Option Value)} {st : List Value} {n : Nat} {Q : xQ} {μ : xM} {x y : Int} (hx : ib x) (hy : ib y) (kt : x ≠ y → x_V S 94 50 L (st) μ n Q) (kf : x = y → x_V S 94 45 L (st) μ n Q) : x_V S 94 42 L (.int (I y) :: .int (I x) :: st) μ n Q := v_icmp_ne d94_42 (by decide) hx hy kt kf
theorem s94_45 {S : Nat × (Nat → Int32)} {L : List (Option Value)} {st : List Value} {n : Nat} {Q : xQ} {μ : xM} {x : Int32} (hl : L[4]? = some (some (.int x))) (h : x_V S 94 47 L (.int x :: st) μ n Q) : x_V S 94 45 L (st) μ n Q := x_iload d94_45 hl h
theorem s94_47 {S : Nat × (Nat → Int32)} {L : List (Option Value)} {st : List Value} {n : Nat} {Q : xQ} {μ : xM}  (h : x_V S 94 52 L (st) μ n Q) : x_V S 94 47 L (st) μ n Q := x_goto (tgt := 52) (by decide) d94_47 h
theorem s94_50 {S : Nat × (Nat → Int32)} {L : List (Option Value)} {st : List Value} {n : Nat} {Q : xQ} {μ : xM} {x : Int32} (hl : L[5]? = some (some (.int x))) (h : x_V S 94 52 L (.int x :: st) μ n Q) : x_V S 94 50 L (st) μ n Q := x_iload d94_50 hl h
theorem s94_52 {S : Nat × (Nat → Int32)} {L : List (Option Value)} {st : List Value} {n : Nat} {Q : xQ} {μ : xM} {x : Int32} (h : x_V S 94 54 (L.set 10 (some (.int x))) (st) μ n Q) : x_V S 94 52 L (.int x :: st) μ n Q := x_istore d94_52 (by decide) h
theorem s94_54 {S : Nat × (Nat → Int32)} {L : List (Option Value)} {st : List Value} {n : Nat} {Q : xQ} {μ : xM} {x : Int32} (hl : L[1]? = some (some (.int x))) (h : x_V S 94 55 L (.int x :: st) μ n Q) : x_V S 94 54 L (st) μ n Q := x_iload_n d94_54 hl h
theorem s94_55 {S : Nat × (Nat → Int32)} {L : List (Option Value)} {st : List Value} {n : Nat} {Q : xQ} {μ : xM}  (h : x_V S 94 57 L (.int (I 52) :: st) μ n Q) : x_V S 94 55 L (st) μ n Q := x_bipush (by decide +kernel) d94_55 h
theorem s94_57 {S : Nat × (Nat → Int32)} {L : List (Option Value)} {st : List Value} {n : Nat} {Q : xQ} {μ : xM} {x y : Int} (hx : ib x) (hy : ib y) (kt : x ≠ y → x_V S 94 66 L (st) μ n Q) (kf : x = y → x_V S 94 60 L (st) μ n Q) : x_V S 94 57 L (.int (I y) :: .int (I x) :: st) μ n Q := v_icmp_ne d94_57 (by decide) hx hy kt kf
theorem s94_60 {S : Nat × (Nat → Int32)} {L : List (Option Value)} {st : List Value} {n : Nat} {Q : xQ} {μ : xM} {x : Int32} (hl : L[8]? = some (some (.int x))) (h : x_V S 94 62 L (.int x :: st) μ n Q) : x_V S 94 60 L (st) μ n Q := x_iload d94_60 hl h
theorem s94_62 {S : Nat × (Nat → Int32)} {L : List (Option Value)} {st : List Value} {n : Nat} {Q : xQ} {μ : xM}  (h : x_V S 94 63 L (.int (I 1) :: st) μ n Q) : x_V S 94 62 L (st) μ n Q := x_iconst (by decide +kernel) d94_62 h
theorem s94_63 {S : Nat × (Nat → Int32)} {L : List (Option Value)} {st : List Value} {n : Nat} {Q : xQ} {μ : xM} {x y : Int} (hx : ib x) (hy : ib y) (kt : x = y → x_V S 94 78 L (st) μ n Q) (kf : x ≠ y → x_V S 94 66 L (st) μ n Q) : x_V S 94 63 L (.int (I y) :: .int (I x) :: st) μ n Q := v_icmp_eq d94_63 (by decide) hx hy kt kf
theorem s94_66 {S : Nat × (Nat → Int32)} {L : List (Option Value)} {st : List Value} {n : Nat} {Q : xQ} {μ : xM} {x : Int32} (hl : L[1]? = some (some (.int x))) (h : x_V S 94 67 L (.int x :: st) μ n Q) : x_V S 94 66 L (st) μ n Q := x_iload_n d94_66 hl h
theorem s94_67 {S : Nat × (Nat → Int32)} {L : List (Option Value)} {st : List Value} {n : Nat} {Q : xQ} {μ : xM}  (h : x_V S 94 69 L (.int (I 56) :: st) μ n Q) : x_V S 94 67 L (st) μ n Q := x_bipush (by decide +kernel) d94_67 h
theorem s94_69 {S : Nat × (Nat → Int32)} {L : List (Option Value)} {st : List Value} {n : Nat} {Q : xQ} {μ : xM} {x y : Int} (hx : ib x) (hy : ib y) (kt : x ≠ y → x_V S 94 82 L (st) μ n Q) (kf : x = y → x_V S 94 72 L (st) μ n Q) : x_V S 94 69 L (.int (I y) :: .int (I x) :: st) μ n Q := v_icmp_ne d94_69 (by decide) hx hy kt kf
theorem s94_72 {S : Nat × (Nat → Int32)} {L : List (Option Value)} {st : List Value} {n : Nat} {Q : xQ} {μ : xM} {x : Int32} (hl : L[8]? = some (some (.int x))) (h : x_V S 94 74 L (.int x :: st) μ n Q) : x_V S 94 72 L (st) μ n Q := x_iload d94_72 hl h
theorem s94_74 {S : Nat × (Nat → Int32)} {L : List (Option Value)} {st : List Value} {n : Nat} {Q : xQ} {μ : xM}  (h : x_V S 94 75 L (.int (I 1) :: st) μ n Q) : x_V S 94 74 L (st) μ n Q := x_iconst (by decide +kernel) d94_74 h
theorem s94_75 {S : Nat × (Nat → Int32)} {L : List (Option Value)} {st : List Value} {n : Nat} {Q : xQ} {μ : xM} {x y : Int} (hx : ib x) (hy : ib y) (kt : x ≠ y → x_V S 94 82 L (st) μ n Q) (kf : x = y → x_V S 94 78 L (st) μ n Q) : x_V S 94 75 L (.int (I y) :: .int (I x) :: st) μ n Q := v_icmp_ne d94_75 (by decide) hx hy kt kf
theorem s94_78 {S : Nat × (Nat → Int32)} {L : List (Option Value)} {st : List Value} {n : Nat} {Q : xQ} {μ : xM}  (h : x_V S 94 79 L (.int (I 1) :: st) μ n Q) : x_V S 94 78 L (st) μ n Q := x_iconst (by decide +kernel) d94_78 h
theorem s94_79 {S : Nat × (Nat → Int32)} {L : List (Option Value)} {st : List Value} {n : Nat} {Q : xQ} {μ : xM}  (h : x_V S 94 83 L (st) μ n Q) : x_V S 94 79 L (st) μ n Q := x_goto (tgt := 83) (by decide) d94_79 h
theorem s94_82 {S : Nat × (Nat → Int32)} {L : List (Option Value)} {st : List Value} {n : Nat} {Q : xQ} {μ : xM}  (h : x_V S 94 83 L (.int (I 0) :: st) μ n Q) : x_V S 94 82 L (st) μ n Q := x_iconst (by decide +kernel) d94_82 h
theorem s94_83 {S : Nat × (Nat → Int32)} {L : List (Option Value)} {st : List Value} {n : Nat} {Q : xQ} {μ : xM} {x : Int32} (h : x_V S 94 85 (L.set 11 (some (.int x))) (st) μ n Q) : x_V S 94 83 L (.int x :: st) μ n Q := x_istore d94_83 (by decide) h
theorem s94_85 {S : Nat × (Nat → Int32)} {L : List (Option Value)} {st : List Value} {n : Nat} {Q : xQ} {μ : xM} {x : Int32} (hl : L[9]? = some (some (.int x))) (h : x_V S 94 87 L (.int x :: st) μ n Q) : x_V S 94 85 L (st) μ n Q := x_iload d94_85 hl h
theorem s94_87 {S : Nat × (Nat → Int32)} {L : List (Option Value)} {st : List Value} {n : Nat} {Q : xQ} {μ : xM} {x : Int} (hx : ib x) (kt : x = 0 → x_V S 94 95 L (st) μ n Q) (kf : x ≠ 0 → x_V S 94 90 L (st) μ n Q) : x_V S 94 87 L (.int (I x) :: st) μ n Q := v_if_eq d94_87 (by decide) hx kt kf
theorem s94_90 {S : Nat × (Nat → Int32)} {L : List (Option Value)} {st : List Value} {n : Nat} {Q : xQ} {μ : xM} {x : Int32} (hl : L[10]? = some (some (.int x))) (h : x_V S 94 92 L (.int x :: st) μ n Q) : x_V S 94 90 L (st) μ n Q := x_iload d94_90 hl h
theorem s94_92 {S : Nat × (Nat → Int32)} {L : List (Option Value)} {st : List Value} {n : Nat} {Q : xQ} {μ : xM} {x : Int} (hx : ib x) (kt : 0 ≤ x → x_V S 94 98 L (st) μ n Q) (kf : x < 0 → x_V S 94 95 L (st) μ n Q) : x_V S 94 92 L (.int (I x) :: st) μ n Q := v_if_ge d94_92 (by decide) hx kt kf
theorem s94_95 {S : Nat × (Nat → Int32)} {L : List (Option Value)} {st : List Value} {n : Nat} {Q : xQ} {μ : xM} {x : Int32} (hl : L[7]? = some (some (.int x))) (h : x_V S 94 97 L (.int x :: st) μ n Q) : x_V S 94 95 L (st) μ n Q := x_iload d94_95 hl h
theorem s94_97 {S : Nat × (Nat → Int32)} {L : List (Option Value)} {st : List Value} {n : Nat} {Q : xQ} {μ : xM} {x : Int32} (h : Q (.inl (some (.int x))) μ n) : x_V S 94 97 L (.int x :: []) μ n Q := x_ireturn d94_97 rfl rfl h
theorem s94_98 {S : Nat × (Nat → Int32)} {L : List (Option Value)} {st : List Value} {n : Nat} {Q : xQ} {μ : xM} {x : Int32} (hl : L[7]? = some (some (.int x))) (h : x_V S 94 100 L (.int x :: st) μ n Q) : x_V S 94 98 L (st) μ n Q := x_iload d94_98 hl h
theorem s94_100 {S : Nat × (Nat → Int32)} {L : List (Option Value)} {st : List Value} {n : Nat} {Q : xQ} {μ : xM} {x : Int32} (hl : L[11]? = some (some (.int x))) (h : x_V S 94 102 L (.int x :: st) μ n Q) : x_V S 94 100 L (st) μ n Q := x_iload d94_100 hl h
theorem s94_102 {S : Nat × (Nat → Int32)} {L : List (Option Value)} {st : List Value} {n : Nat} {Q : xQ} {μ : xM} {x : Int} (hx : ib x) (kt : x = 0 → x_V S 94 115 L (st) μ n Q) (kf : x ≠ 0 → x_V S 94 105 L (st) μ n Q) : x_V S 94 102 L (.int (I x) :: st) μ n Q := v_if_eq d94_102 (by decide) hx kt kf
theorem s94_105 {S : Nat × (Nat → Int32)} {L : List (Option Value)} {st : List Value} {n : Nat} {Q : xQ} {μ : xM} {x : Int32} (hl : L[9]? = some (some (.int x))) (h : x_V S 94 107 L (.int x :: st) μ n Q) : x_V S 94 105 L (st) μ n Q := x_iload d94_105 hl h
theorem s94_107 {S : Nat × (Nat → Int32)} {L : List (Option Value)} {st : List Value} {n : Nat} {Q : xQ} {μ : xM} {x0 : Int32} (hst : st.length ≤ 4) (h : x_V S 91 0 [some (.int x0), none, none] [] μ n (x_bk S 94 107 L st Q)) : x_V S 94 107 L (.int x0 :: st) μ n Q := x_callS (k' := 91) (as := [.int x0]) (na := 1) d94_107 ⟨w854, by decide +kernel, by decide, by decide, by decide, by decide, by decide⟩ w852 w853 w10 (by decide +kernel) rfl (fun v hv => by
    simp only [List.mem_cons, List.not_mem_nil, or_false] at hv
    rcases hv with rfl <;> first | rfl | assumption) hst h
theorem s94_110 {S : Nat × (Nat → Int32)} {L : List (Option Value)} {st : List Value} {n : Nat} {Q : xQ} {μ : xM}  (h : x_V S 94 111 L (.int (I 3) :: st) μ n Q) : x_V S 94 110 L (st) μ n Q := x_iconst (by decide +kernel) d94_110 h
theorem s94_111 {S : Nat × (Nat → Int32)} {L : List (Option Value)} {st : List Value} {n : Nat} {Q : xQ} {μ : xM} {x y : Int} (h : x_V S 94 112 L (.int (I (x + y)) :: st) μ n Q) : x_V S 94 111 L (.int (I y) :: .int (I x) :: st) μ n Q := v_iadd d94_111 h
theorem s94_112 {S : Nat × (Nat → Int32)} {L : List (Option Value)} {st : List Value} {n : Nat} {Q : xQ} {μ : xM}  (h : x_V S 94 122 L (st) μ n Q) : x_V S 94 112 L (st) μ n Q := x_goto (tgt := 122) (by decide) d94_112 h
theorem s94_115 {S : Nat × (Nat → Int32)} {L : List (Option Value)} {st : List Value} {n : Nat} {Q : xQ} {μ : xM} {x : Int32} (hl : L[9]? = some (some (.int x))) (h : x_V S 94 117 L (.int x :: st) μ n Q) : x_V S 94 115 L (st) μ n Q := x_iload d94_115 hl h
theorem s94_117 {S : Nat × (Nat → Int32)} {L : List (Option Value)} {st : List Value} {n : Nat} {Q : xQ} {μ : xM} {x : Int32} (hl : L[10]? = some (some (.int x))) (h : x_V S 94 119 L (.int x :: st) μ n Q) : x_V S 94 117 L (st) μ n Q := x_iload d94_117 hl h
theorem s94_119 {S : Nat × (Nat → Int32)} {L : List (Option Value)} {st : List Value} {n : Nat} {Q : xQ} {μ : xM} {x0 : Int32} {x1 : Int32} (hst : st.length ≤ 4) (h : x_V S 93 0 [some (.int x0), some (.int x1)] [] μ n (x_bk S 94 119 L st Q)) : x_V S 94 119 L (.int x1 :: .int x0 :: st) μ n Q := x_callS (k' := 93) (as := [.int x0, .int x1]) (na := 2) d94_119 ⟨w851, by decide +kernel, by decide, by decide, by decide, by decide, by decide⟩ w849 w850 w10 (by decide +kernel) rfl (fun v hv => by
    simp only [List.mem_cons, List.not_mem_nil, or_false] at hv
    rcases hv with rfl | rfl <;> first | rfl | assumption) hst h
theorem s94_122 {S : Nat × (Nat → Int32)} {L : List (Option Value)} {st : List Value} {n : Nat} {Q : xQ} {μ : xM} {x y : Int} (h : x_V S 94 123 L (.int (I (x + y)) :: st) μ n Q) : x_V S 94 122 L (.int (I y) :: .int (I x) :: st) μ n Q := v_iadd d94_122 h
theorem s94_123 {S : Nat × (Nat → Int32)} {L : List (Option Value)} {st : List Value} {n : Nat} {Q : xQ} {μ : xM} {x : Int32} (h : x_V S 94 125 (L.set 7 (some (.int x))) (st) μ n Q) : x_V S 94 123 L (.int x :: st) μ n Q := x_istore d94_123 (by decide) h
theorem s94_125 {S : Nat × (Nat → Int32)} {L : List (Option Value)} {st : List Value} {n : Nat} {Q : xQ} {μ : xM} {x : Int32} (hl : L[6]? = some (some (.int x))) (h : x_V S 94 127 L (.int x :: st) μ n Q) : x_V S 94 125 L (st) μ n Q := x_iload d94_125 hl h
theorem s94_127 {S : Nat × (Nat → Int32)} {L : List (Option Value)} {st : List Value} {n : Nat} {Q : xQ} {μ : xM} {x : Int} (hx : ib x) (kt : x = 0 → x_V S 94 143 L (st) μ n Q) (kf : x ≠ 0 → x_V S 94 130 L (st) μ n Q) : x_V S 94 127 L (.int (I x) :: st) μ n Q := v_if_eq d94_127 (by decide) hx kt kf
theorem s94_130 {S : Nat × (Nat → Int32)} {L : List (Option Value)} {st : List Value} {n : Nat} {Q : xQ} {μ : xM} {x : Int32} (hl : L[11]? = some (some (.int x))) (h : x_V S 94 132 L (.int x :: st) μ n Q) : x_V S 94 130 L (st) μ n Q := x_iload d94_130 hl h
theorem s94_132 {S : Nat × (Nat → Int32)} {L : List (Option Value)} {st : List Value} {n : Nat} {Q : xQ} {μ : xM} {x : Int} (hx : ib x) (kt : x = 0 → x_V S 94 143 L (st) μ n Q) (kf : x ≠ 0 → x_V S 94 135 L (st) μ n Q) : x_V S 94 132 L (.int (I x) :: st) μ n Q := v_if_eq d94_132 (by decide) hx kt kf
theorem s94_135 {S : Nat × (Nat → Int32)} {L : List (Option Value)} {st : List Value} {n : Nat} {Q : xQ} {μ : xM} {a : Nat} (hl : L[0]? = some (some (.ref a))) (h : x_V S 94 136 L (.ref a :: st) μ n Q) : x_V S 94 135 L (st) μ n Q := x_aload_n d94_135 hl h
theorem s94_135N {S : Nat × (Nat → Int32)} {L : List (Option Value)} {st : List Value} {n : Nat} {Q : xQ} {μ : xM} (hl : L[0]? = some (some .null)) (h : x_V S 94 136 L (.null :: st) μ n Q) : x_V S 94 135 L st μ n Q := x_aload_nN d94_135 hl h
theorem s94_136 {S : Nat × (Nat → Int32)} {L : List (Option Value)} {st : List Value} {n : Nat} {Q : xQ} {μ : xM} {x : Int32} (hl : L[9]? = some (some (.int x))) (h : x_V S 94 138 L (.int x :: st) μ n Q) : x_V S 94 136 L (st) μ n Q := x_iload d94_136 hl h
theorem s94_138 {S : Nat × (Nat → Int32)} {L : List (Option Value)} {st : List Value} {n : Nat} {Q : xQ} {μ : xM} {x : Int32} (hl : L[10]? = some (some (.int x))) (h : x_V S 94 140 L (.int x :: st) μ n Q) : x_V S 94 138 L (st) μ n Q := x_iload d94_138 hl h
theorem s94_140 {S : Nat × (Nat → Int32)} {L : List (Option Value)} {st : List Value} {n : Nat} {Q : xQ} {μ : xM} {x0 : Int32} {x1 : Int32} {a : Nat} (hs : x_sh a = (9, 39)) (hst : st.length ≤ 4) (h : x_V S 90 0 [some (.ref a), some (.int x0), some (.int x1)] [] μ n (x_bk S 94 140 L st Q)) : x_V S 94 140 L (.int x1 :: .int x0 :: .ref a :: st) μ n Q := x_callV (k' := 90) (as := [.int x0, .int x1]) (na := 2) d94_140 ⟨w840, by decide +kernel, by decide, by decide, by decide, by decide, by decide⟩ cf9 w837 w839 wp26 (by decide +kernel) rfl hs (fun v hv => by
    simp only [List.mem_cons, List.not_mem_nil, or_false] at hv
    rcases hv with rfl | rfl <;> first | rfl | assumption) hst h
theorem s94_143 {S : Nat × (Nat → Int32)} {L : List (Option Value)} {st : List Value} {n : Nat} {Q : xQ} {μ : xM} {x : Int32} (hl : L[6]? = some (some (.int x))) (h : x_V S 94 145 L (.int x :: st) μ n Q) : x_V S 94 143 L (st) μ n Q := x_iload d94_143 hl h
theorem s94_145 {S : Nat × (Nat → Int32)} {L : List (Option Value)} {st : List Value} {n : Nat} {Q : xQ} {μ : xM} {x : Int} (hx : ib x) (kt : x = 0 → x_V S 94 161 L (st) μ n Q) (kf : x ≠ 0 → x_V S 94 148 L (st) μ n Q) : x_V S 94 145 L (.int (I x) :: st) μ n Q := v_if_eq d94_145 (by decide) hx kt kf
theorem s94_148 {S : Nat × (Nat → Int32)} {L : List (Option Value)} {st : List Value} {n : Nat} {Q : xQ} {μ : xM} {x : Int32} (hl : L[11]? = some (some (.int x))) (h : x_V S 94 150 L (.int x :: st) μ n Q) : x_V S 94 148 L (st) μ n Q := x_iload d94_148 hl h
theorem s94_150 {S : Nat × (Nat → Int32)} {L : List (Option Value)} {st : List Value} {n : Nat} {Q : xQ} {μ : xM} {x : Int} (hx : ib x) (kt : x ≠ 0 → x_V S 94 161 L (st) μ n Q) (kf : x = 0 → x_V S 94 153 L (st) μ n Q) : x_V S 94 150 L (.int (I x) :: st) μ n Q := v_if_ne d94_150 (by decide) hx kt kf
theorem s94_153 {S : Nat × (Nat → Int32)} {L : List (Option Value)} {st : List Value} {n : Nat} {Q : xQ} {μ : xM} {a : Nat} (hl : L[0]? = some (some (.ref a))) (h : x_V S 94 154 L (.ref a :: st) μ n Q) : x_V S 94 153 L (st) μ n Q := x_aload_n d94_153 hl h
theorem s94_153N {S : Nat × (Nat → Int32)} {L : List (Option Value)} {st : List Value} {n : Nat} {Q : xQ} {μ : xM} (hl : L[0]? = some (some .null)) (h : x_V S 94 154 L (.null :: st) μ n Q) : x_V S 94 153 L st μ n Q := x_aload_nN d94_153 hl h
theorem s94_154 {S : Nat × (Nat → Int32)} {L : List (Option Value)} {st : List Value} {n : Nat} {Q : xQ} {μ : xM} {x : Int32} (hl : L[9]? = some (some (.int x))) (h : x_V S 94 156 L (.int x :: st) μ n Q) : x_V S 94 154 L (st) μ n Q := x_iload d94_154 hl h
theorem s94_156 {S : Nat × (Nat → Int32)} {L : List (Option Value)} {st : List Value} {n : Nat} {Q : xQ} {μ : xM} {x : Int32} (hl : L[10]? = some (some (.int x))) (h : x_V S 94 158 L (.int x :: st) μ n Q) : x_V S 94 156 L (st) μ n Q := x_iload d94_156 hl h
theorem s94_158 {S : Nat × (Nat → Int32)} {L : List (Option Value)} {st : List Value} {n : Nat} {Q : xQ} {μ : xM} {x0 : Int32} {x1 : Int32} {a : Nat} (hs : x_sh a = (9, 39)) (hst : st.length ≤ 4) (h : x_V S 89 0 [some (.ref a), some (.int x0), some (.int x1)] [] μ n (x_bk S 94 158 L st Q)) : x_V S 94 158 L (.int x1 :: .int x0 :: .ref a :: st) μ n Q := x_callV (k' := 89) (as := [.int x0, .int x1]) (na := 2) d94_158 ⟨w865, by decide +kernel, by decide, by decide, by decide, by decide, by decide⟩ cf9 w862 w864 wp30 (by decide +kernel) rfl hs (fun v hv => by
    simp only [List.mem_cons, List.not_mem_nil, or_false] at hv
    rcases hv with rfl | rfl <;> first | rfl | assumption) hst h
theorem s94_161 {S : Nat × (Nat → Int32)} {L : List (Option Value)} {st : List Value} {n : Nat} {Q : xQ} {μ : xM} {x : Int} (hl : L[8]? = some (some (.int (I x)))) (h : x_V S 94 164 (L.set 8 (some (.int (I (x + 1))))) (st) μ n Q) : x_V S 94 161 L (st) μ n Q := v_iinc d94_161 hl (by decide) h
theorem s94_164 {S : Nat × (Nat → Int32)} {L : List (Option Value)} {st : List Value} {n : Nat} {Q : xQ} {μ : xM}  (h : x_V S 94 6 L (st) μ n Q) : x_V S 94 164 L (st) μ n Q := x_goto (tgt := 6) (by decide) d94_164 h
theorem s94_167 {S : Nat × (Nat → Int32)} {L : List (Option Value)} {st : List Value} {n : Nat} {Q : xQ} {μ : xM} {x : Int32} (hl : L[7]? = some (some (.int x))) (h : x_V S 94 169 L (.int x :: st) μ n Q) : x_V S 94 167 L (st) μ n Q := x_iload d94_167 hl h
theorem s94_169 {S : Nat × (Nat → Int32)} {L : List (Option Value)} {st : List Value} {n : Nat} {Q : xQ} {μ : xM} {x : Int32} (h : Q (.inl (some (.int x))) μ n) : x_V S 94 169 L (.int x :: []) μ n Q := x_ireturn d94_169 rfl rfl h
theorem mC_95 : mC 95 = prog_12_method_13_code := rfl
theorem d95_0 : decode (mC 95) 0 = .ok (.iload_n 0, 1) := by rw [mC_95]; decide +kernel
theorem d95_1 : decode (mC 95) 1 = .ok (.bipush 48, 2) := by rw [mC_95]; decide +kernel
theorem d95_3 : decode (mC 95) 3 = .ok (.if_icmp .eq 9, 3) := by rw [mC_95]; decide +kernel
theorem d95_6 : decode (mC 95) 6 = .ok (.iload_n 0, 1) := by rw [mC_95]; decide +kernel
theorem d95_7 : decode (mC 95) 7 = .ok (.bipush 49, 2) := by rw [mC_95]; decide +kernel
theorem d95_9 : decode (mC 95) 9 = .ok (.if_icmp .ne 14, 3) := by rw [mC_95]; decide +kernel
theorem d95_12 : decode (mC 95) 12 = .ok (.iload_n 1, 1) := by rw [mC_95]; decide +kernel
theorem d95_13 : decode (mC 95) 13 = .ok (.ifCond .ne 8, 3) := by rw [mC_95]; decide +kernel
theorem d95_16 : decode (mC 95) 16 = .ok (.bipush 112, 2) := by rw [mC_95]; decide +kernel
theorem d95_18 : decode (mC 95) 18 = .ok (.goto 4, 3) := by rw [mC_95]; decide +kernel
theorem d95_21 : decode (mC 95) 21 = .ok (.iconst 0, 1) := by rw [mC_95]; decide +kernel
theorem d95_22 : decode (mC 95) 22 = .ok (.ireturn, 1) := by rw [mC_95]; decide +kernel
theorem d95_23 : decode (mC 95) 23 = .ok (.iload_n 0, 1) := by rw [mC_95]; decide +kernel
theorem d95_24 : decode (mC 95) 24 = .ok (.bipush 50, 2) := by rw [mC_95]; decide +kernel
theorem d95_26 : decode (mC 95) 26 = .ok (.if_icmp .ne 24, 3) := by rw [mC_95]; decide +kernel
theorem d95_29 : decode (mC 95) 29 = .ok (.iload_n 1, 1) := by rw [mC_95]; decide +kernel
theorem d95_30 : decode (mC 95) 30 = .ok (.ifCond .ne 8, 3) := by rw [mC_95]; decide +kernel
theorem d95_33 : decode (mC 95) 33 = .ok (.bipush 7, 2) := by rw [mC_95]; decide +kernel
theorem d95_35 : decode (mC 95) 35 = .ok (.goto 14, 3) := by rw [mC_95]; decide +kernel
theorem d95_38 : decode (mC 95) 38 = .ok (.iload_n 1, 1) := by rw [mC_95]; decide +kernel
theorem d95_39 : decode (mC 95) 39 = .ok (.iconst 1, 1) := by rw [mC_95]; decide +kernel
theorem d95_40 : decode (mC 95) 40 = .ok (.if_icmp .ne 8, 3) := by rw [mC_95]; decide +kernel
theorem d95_43 : decode (mC 95) 43 = .ok (.bipush 16, 2) := by rw [mC_95]; decide +kernel
theorem d95_45 : decode (mC 95) 45 = .ok (.goto 4, 3) := by rw [mC_95]; decide +kernel
theorem d95_48 : decode (mC 95) 48 = .ok (.iconst 0, 1) := by rw [mC_95]; decide +kernel
theorem d95_49 : decode (mC 95) 49 = .ok (.ireturn, 1) := by rw [mC_95]; decide +kernel
theorem d95_50 : decode (mC 95) 50 = .ok (.iload_n 0, 1) := by rw [mC_95]; decide +kernel
theorem d95_51 : decode (mC 95) 51 = .ok (.bipush 52, 2) := by rw [mC_95]; decide +kernel
theorem d95_53 : decode (mC 95) 53 = .ok (.if_icmp .ne 24, 3) := by rw [mC_95]; decide +kernel
theorem d95_56 : decode (mC 95) 56 = .ok (.iload_n 1, 1) := by rw [mC_95]; decide +kernel
theorem d95_57 : decode (mC 95) 57 = .ok (.ifCond .ne 8, 3) := by rw [mC_95]; decide +kernel
theorem d95_60 : decode (mC 95) 60 = .ok (.bipush 36, 2) := by rw [mC_95]; decide +kernel
theorem d95_62 : decode (mC 95) 62 = .ok (.goto 14, 3) := by rw [mC_95]; decide +kernel
theorem d95_65 : decode (mC 95) 65 = .ok (.iload_n 1, 1) := by rw [mC_95]; decide +kernel
theorem d95_66 : decode (mC 95) 66 = .ok (.iconst 1, 1) := by rw [mC_95]; decide +kernel
theorem d95_67 : decode (mC 95) 67 = .ok (.if_icmp .ne 8, 3) := by rw [mC_95]; decide +kernel
theorem d95_70 : decode (mC 95) 70 = .ok (.bipush 123, 2) := by rw [mC_95]; decide +kernel
theorem d95_72 : decode (mC 95) 72 = .ok (.goto 4, 3) := by rw [mC_95]; decide +kernel
theorem d95_75 : decode (mC 95) 75 = .ok (.iconst 0, 1) := by rw [mC_95]; decide +kernel
theorem d95_76 : decode (mC 95) 76 = .ok (.ireturn, 1) := by rw [mC_95]; decide +kernel
theorem d95_77 : decode (mC 95) 77 = .ok (.iload_n 0, 1) := by rw [mC_95]; decide +kernel
theorem d95_78 : decode (mC 95) 78 = .ok (.bipush 65, 2) := by rw [mC_95]; decide +kernel
theorem d95_80 : decode (mC 95) 80 = .ok (.if_icmp .ne 14, 3) := by rw [mC_95]; decide +kernel
theorem d95_83 : decode (mC 95) 83 = .ok (.iload_n 1, 1) := by rw [mC_95]; decide +kernel
theorem d95_84 : decode (mC 95) 84 = .ok (.ifCond .ne 8, 3) := by rw [mC_95]; decide +kernel
theorem d95_87 : decode (mC 95) 87 = .ok (.bipush 108, 2) := by rw [mC_95]; decide +kernel
theorem d95_89 : decode (mC 95) 89 = .ok (.goto 4, 3) := by rw [mC_95]; decide +kernel
theorem d95_92 : decode (mC 95) 92 = .ok (.iconst 0, 1) := by rw [mC_95]; decide +kernel
theorem d95_93 : decode (mC 95) 93 = .ok (.ireturn, 1) := by rw [mC_95]; decide +kernel
theorem d95_94 : decode (mC 95) 94 = .ok (.iload_n 0, 1) := by rw [mC_95]; decide +kernel
theorem d95_95 : decode (mC 95) 95 = .ok (.bipush 68, 2) := by rw [mC_95]; decide +kernel
theorem d95_97 : decode (mC 95) 97 = .ok (.if_icmp .ne 34, 3) := by rw [mC_95]; decide +kernel
theorem d95_100 : decode (mC 95) 100 = .ok (.iload_n 1, 1) := by rw [mC_95]; decide +kernel
theorem d95_101 : decode (mC 95) 101 = .ok (.ifCond .ne 8, 3) := by rw [mC_95]; decide +kernel
theorem d95_104 : decode (mC 95) 104 = .ok (.bipush 11, 2) := by rw [mC_95]; decide +kernel
theorem d95_106 : decode (mC 95) 106 = .ok (.goto 24, 3) := by rw [mC_95]; decide +kernel
theorem d95_109 : decode (mC 95) 109 = .ok (.iload_n 1, 1) := by rw [mC_95]; decide +kernel
theorem d95_110 : decode (mC 95) 110 = .ok (.iconst 1, 1) := by rw [mC_95]; decide +kernel
theorem d95_111 : decode (mC 95) 111 = .ok (.if_icmp .ne 8, 3) := by rw [mC_95]; decide +kernel
theorem d95_114 : decode (mC 95) 114 = .ok (.bipush 54, 2) := by rw [mC_95]; decide +kernel
theorem d95_116 : decode (mC 95) 116 = .ok (.goto 14, 3) := by rw [mC_95]; decide +kernel
theorem d95_119 : decode (mC 95) 119 = .ok (.iload_n 1, 1) := by rw [mC_95]; decide +kernel
theorem d95_120 : decode (mC 95) 120 = .ok (.iconst 2, 1) := by rw [mC_95]; decide +kernel
theorem d95_121 : decode (mC 95) 121 = .ok (.if_icmp .ne 8, 3) := by rw [mC_95]; decide +kernel
theorem d95_124 : decode (mC 95) 124 = .ok (.bipush 38, 2) := by rw [mC_95]; decide +kernel
theorem d95_126 : decode (mC 95) 126 = .ok (.goto 4, 3) := by rw [mC_95]; decide +kernel
theorem d95_129 : decode (mC 95) 129 = .ok (.iconst 0, 1) := by rw [mC_95]; decide +kernel
theorem d95_130 : decode (mC 95) 130 = .ok (.ireturn, 1) := by rw [mC_95]; decide +kernel
theorem d95_131 : decode (mC 95) 131 = .ok (.iload_n 0, 1) := by rw [mC_95]; decide +kernel
theorem d95_132 : decode (mC 95) 132 = .ok (.bipush 70, 2) := by rw [mC_95]; decide +kernel
theorem d95_134 : decode (mC 95) 134 = .ok (.if_icmp .eq 9, 3) := by rw [mC_95]; decide +kernel
theorem d95_137 : decode (mC 95) 137 = .ok (.iload_n 0, 1) := by rw [mC_95]; decide +kernel
theorem d95_138 : decode (mC 95) 138 = .ok (.bipush 71, 2) := by rw [mC_95]; decide +kernel
theorem d95_140 : decode (mC 95) 140 = .ok (.if_icmp .ne 40, 3) := by rw [mC_95]; decide +kernel
theorem d95_143 : decode (mC 95) 143 = .ok (.iload_n 1, 1) := by rw [mC_95]; decide +kernel
theorem d95_144 : decode (mC 95) 144 = .ok (.ifCond .ne 8, 3) := by rw [mC_95]; decide +kernel
theorem d95_147 : decode (mC 95) 147 = .ok (.bipush 11, 2) := by rw [mC_95]; decide +kernel
theorem d95_149 : decode (mC 95) 149 = .ok (.goto 30, 3) := by rw [mC_95]; decide +kernel
theorem d95_152 : decode (mC 95) 152 = .ok (.iload_n 1, 1) := by rw [mC_95]; decide +kernel
theorem d95_153 : decode (mC 95) 153 = .ok (.iconst 1, 1) := by rw [mC_95]; decide +kernel
theorem d95_154 : decode (mC 95) 154 = .ok (.if_icmp .ne 8, 3) := by rw [mC_95]; decide +kernel
theorem d95_157 : decode (mC 95) 157 = .ok (.bipush 41, 2) := by rw [mC_95]; decide +kernel
theorem d95_159 : decode (mC 95) 159 = .ok (.goto 20, 3) := by rw [mC_95]; decide +kernel
theorem d95_162 : decode (mC 95) 162 = .ok (.iload_n 1, 1) := by rw [mC_95]; decide +kernel
theorem d95_163 : decode (mC 95) 163 = .ok (.iconst 2, 1) := by rw [mC_95]; decide +kernel
theorem d95_164 : decode (mC 95) 164 = .ok (.if_icmp .ne 14, 3) := by rw [mC_95]; decide +kernel
theorem d95_167 : decode (mC 95) 167 = .ok (.iload_n 0, 1) := by rw [mC_95]; decide +kernel
theorem d95_168 : decode (mC 95) 168 = .ok (.bipush 71, 2) := by rw [mC_95]; decide +kernel
theorem d95_170 : decode (mC 95) 170 = .ok (.if_icmp .ne 8, 3) := by rw [mC_95]; decide +kernel
theorem d95_173 : decode (mC 95) 173 = .ok (.bipush 38, 2) := by rw [mC_95]; decide +kernel
theorem d95_175 : decode (mC 95) 175 = .ok (.goto 4, 3) := by rw [mC_95]; decide +kernel
theorem d95_178 : decode (mC 95) 178 = .ok (.iconst 0, 1) := by rw [mC_95]; decide +kernel
theorem d95_179 : decode (mC 95) 179 = .ok (.ireturn, 1) := by rw [mC_95]; decide +kernel
theorem d95_180 : decode (mC 95) 180 = .ok (.iload_n 0, 1) := by rw [mC_95]; decide +kernel
theorem d95_181 : decode (mC 95) 181 = .ok (.bipush 56, 2) := by rw [mC_95]; decide +kernel
theorem d95_183 : decode (mC 95) 183 = .ok (.if_icmp .ne 36, 3) := by rw [mC_95]; decide +kernel
theorem d95_186 : decode (mC 95) 186 = .ok (.iload_n 1, 1) := by rw [mC_95]; decide +kernel
theorem d95_187 : decode (mC 95) 187 = .ok (.ifCond .ne 8, 3) := by rw [mC_95]; decide +kernel
theorem d95_190 : decode (mC 95) 190 = .ok (.bipush 11, 2) := by rw [mC_95]; decide +kernel
theorem d95_192 : decode (mC 95) 192 = .ok (.goto 26, 3) := by rw [mC_95]; decide +kernel
theorem d95_195 : decode (mC 95) 195 = .ok (.iload_n 1, 1) := by rw [mC_95]; decide +kernel
theorem d95_196 : decode (mC 95) 196 = .ok (.iconst 1, 1) := by rw [mC_95]; decide +kernel
theorem d95_197 : decode (mC 95) 197 = .ok (.if_icmp .ne 8, 3) := by rw [mC_95]; decide +kernel
theorem d95_200 : decode (mC 95) 200 = .ok (.bipush 39, 2) := by rw [mC_95]; decide +kernel
theorem d95_202 : decode (mC 95) 202 = .ok (.goto 16, 3) := by rw [mC_95]; decide +kernel
theorem d95_205 : decode (mC 95) 205 = .ok (.iload_n 1, 1) := by rw [mC_95]; decide +kernel
theorem d95_206 : decode (mC 95) 206 = .ok (.iconst 2, 1) := by rw [mC_95]; decide +kernel
theorem d95_207 : decode (mC 95) 207 = .ok (.if_icmp .ne 8, 3) := by rw [mC_95]; decide +kernel
theorem d95_210 : decode (mC 95) 210 = .ok (.bipush 14, 2) := by rw [mC_95]; decide +kernel
theorem d95_212 : decode (mC 95) 212 = .ok (.goto 6, 3) := by rw [mC_95]; decide +kernel
theorem d95_215 : decode (mC 95) 215 = .ok (.sipush 151, 3) := by rw [mC_95]; decide +kernel
theorem d95_218 : decode (mC 95) 218 = .ok (.ireturn, 1) := by rw [mC_95]; decide +kernel
theorem d95_219 : decode (mC 95) 219 = .ok (.iconst 0, 1) := by rw [mC_95]; decide +kernel
theorem d95_220 : decode (mC 95) 220 = .ok (.ireturn, 1) := by rw [mC_95]; decide +kernel
theorem s95_0 {S : Nat × (Nat → Int32)} {L : List (Option Value)} {st : List Value} {n : Nat} {Q : xQ} {μ : xM} {x : Int32} (hl : L[0]? = some (some (.int x))) (h : x_V S 95 1 L (.int x :: st) μ n Q) : x_V S 95 0 L (st) μ n Q := x_iload_n d95_0 hl h
theorem s95_1 {S : Nat × (Nat → Int32)} {L : List (Option Value)} {st : List Value} {n : Nat} {Q : xQ} {μ : xM}  (h : x_V S 95 3 L (.int (I 48) :: st) μ n Q) : x_V S 95 1 L (st) μ n Q := x_bipush (by decide +kernel) d95_1 h
theorem s95_3 {S : Nat × (Nat → Int32)} {L : List (Option Value)} {st : List Value} {n : Nat} {Q : xQ} {μ : xM} {x y : Int} (hx : ib x) (hy : ib y) (kt : x = y → x_V S 95 12 L (st) μ n Q) (kf : x ≠ y → x_V S 95 6 L (st) μ n Q) : x_V S 95 3 L (.int (I y) :: .int (I x) :: st) μ n Q := v_icmp_eq d95_3 (by decide) hx hy kt kf
theorem s95_6 {S : Nat × (Nat → Int32)} {L : List (Option Value)} {st : List Value} {n : Nat} {Q : xQ} {μ : xM} {x : Int32} (hl : L[0]? = some (some (.int x))) (h : x_V S 95 7 L (.int x :: st) μ n Q) : x_V S 95 6 L (st) μ n Q := x_iload_n d95_6 hl h
theorem s95_7 {S : Nat × (Nat → Int32)} {L : List (Option Value)} {st : List Value} {n : Nat} {Q : xQ} {μ : xM}  (h : x_V S 95 9 L (.int (I 49) :: st) μ n Q) : x_V S 95 7 L (st) μ n Q := x_bipush (by decide +kernel) d95_7 h
theorem s95_9 {S : Nat × (Nat → Int32)} {L : List (Option Value)} {st : List Value} {n : Nat} {Q : xQ} {μ : xM} {x y : Int} (hx : ib x) (hy : ib y) (kt : x ≠ y → x_V S 95 23 L (st) μ n Q) (kf : x = y → x_V S 95 12 L (st) μ n Q) : x_V S 95 9 L (.int (I y) :: .int (I x) :: st) μ n Q := v_icmp_ne d95_9 (by decide) hx hy kt kf
theorem s95_12 {S : Nat × (Nat → Int32)} {L : List (Option Value)} {st : List Value} {n : Nat} {Q : xQ} {μ : xM} {x : Int32} (hl : L[1]? = some (some (.int x))) (h : x_V S 95 13 L (.int x :: st) μ n Q) : x_V S 95 12 L (st) μ n Q := x_iload_n d95_12 hl h
theorem s95_13 {S : Nat × (Nat → Int32)} {L : List (Option Value)} {st : List Value} {n : Nat} {Q : xQ} {μ : xM} {x : Int} (hx : ib x) (kt : x ≠ 0 → x_V S 95 21 L (st) μ n Q) (kf : x = 0 → x_V S 95 16 L (st) μ n Q) : x_V S 95 13 L (.int (I x) :: st) μ n Q := v_if_ne d95_13 (by decide) hx kt kf
theorem s95_16 {S : Nat × (Nat → Int32)} {L : List (Option Value)} {st : List Value} {n : Nat} {Q : xQ} {μ : xM}  (h : x_V S 95 18 L (.int (I 112) :: st) μ n Q) : x_V S 95 16 L (st) μ n Q := x_bipush (by decide +kernel) d95_16 h
theorem s95_18 {S : Nat × (Nat → Int32)} {L : List (Option Value)} {st : List Value} {n : Nat} {Q : xQ} {μ : xM}  (h : x_V S 95 22 L (st) μ n Q) : x_V S 95 18 L (st) μ n Q := x_goto (tgt := 22) (by decide) d95_18 h
theorem s95_21 {S : Nat × (Nat → Int32)} {L : List (Option Value)} {st : List Value} {n : Nat} {Q : xQ} {μ : xM}  (h : x_V S 95 22 L (.int (I 0) :: st) μ n Q) : x_V S 95 21 L (st) μ n Q := x_iconst (by decide +kernel) d95_21 h
theorem s95_22 {S : Nat × (Nat → Int32)} {L : List (Option Value)} {st : List Value} {n : Nat} {Q : xQ} {μ : xM} {x : Int32} (h : Q (.inl (some (.int x))) μ n) : x_V S 95 22 L (.int x :: []) μ n Q := x_ireturn d95_22 rfl rfl h
theorem s95_23 {S : Nat × (Nat → Int32)} {L : List (Option Value)} {st : List Value} {n : Nat} {Q : xQ} {μ : xM} {x : Int32} (hl : L[0]? = some (some (.int x))) (h : x_V S 95 24 L (.int x :: st) μ n Q) : x_V S 95 23 L (st) μ n Q := x_iload_n d95_23 hl h
theorem s95_24 {S : Nat × (Nat → Int32)} {L : List (Option Value)} {st : List Value} {n : Nat} {Q : xQ} {μ : xM}  (h : x_V S 95 26 L (.int (I 50) :: st) μ n Q) : x_V S 95 24 L (st) μ n Q := x_bipush (by decide +kernel) d95_24 h
theorem s95_26 {S : Nat × (Nat → Int32)} {L : List (Option Value)} {st : List Value} {n : Nat} {Q : xQ} {μ : xM} {x y : Int} (hx : ib x) (hy : ib y) (kt : x ≠ y → x_V S 95 50 L (st) μ n Q) (kf : x = y → x_V S 95 29 L (st) μ n Q) : x_V S 95 26 L (.int (I y) :: .int (I x) :: st) μ n Q := v_icmp_ne d95_26 (by decide) hx hy kt kf
theorem s95_29 {S : Nat × (Nat → Int32)} {L : List (Option Value)} {st : List Value} {n : Nat} {Q : xQ} {μ : xM} {x : Int32} (hl : L[1]? = some (some (.int x))) (h : x_V S 95 30 L (.int x :: st) μ n Q) : x_V S 95 29 L (st) μ n Q := x_iload_n d95_29 hl h
theorem s95_30 {S : Nat × (Nat → Int32)} {L : List (Option Value)} {st : List Value} {n : Nat} {Q : xQ} {μ : xM} {x : Int} (hx : ib x) (kt : x ≠ 0 → x_V S 95 38 L (st) μ n Q) (kf : x = 0 → x_V S 95 33 L (st) μ n Q) : x_V S 95 30 L (.int (I x) :: st) μ n Q := v_if_ne d95_30 (by decide) hx kt kf
theorem s95_33 {S : Nat × (Nat → Int32)} {L : List (Option Value)} {st : List Value} {n : Nat} {Q : xQ} {μ : xM}  (h : x_V S 95 35 L (.int (I 7) :: st) μ n Q) : x_V S 95 33 L (st) μ n Q := x_bipush (by decide +kernel) d95_33 h
theorem s95_35 {S : Nat × (Nat → Int32)} {L : List (Option Value)} {st : List Value} {n : Nat} {Q : xQ} {μ : xM}  (h : x_V S 95 49 L (st) μ n Q) : x_V S 95 35 L (st) μ n Q := x_goto (tgt := 49) (by decide) d95_35 h
theorem s95_38 {S : Nat × (Nat → Int32)} {L : List (Option Value)} {st : List Value} {n : Nat} {Q : xQ} {μ : xM} {x : Int32} (hl : L[1]? = some (some (.int x))) (h : x_V S 95 39 L (.int x :: st) μ n Q) : x_V S 95 38 L (st) μ n Q := x_iload_n d95_38 hl h
theorem s95_39 {S : Nat × (Nat → Int32)} {L : List (Option Value)} {st : List Value} {n : Nat} {Q : xQ} {μ : xM}  (h : x_V S 95 40 L (.int (I 1) :: st) μ n Q) : x_V S 95 39 L (st) μ n Q := x_iconst (by decide +kernel) d95_39 h
theorem s95_40 {S : Nat × (Nat → Int32)} {L : List (Option Value)} {st : List Value} {n : Nat} {Q : xQ} {μ : xM} {x y : Int} (hx : ib x) (hy : ib y) (kt : x ≠ y → x_V S 95 48 L (st) μ n Q) (kf : x = y → x_V S 95 43 L (st) μ n Q) : x_V S 95 40 L (.int (I y) :: .int (I x) :: st) μ n Q := v_icmp_ne d95_40 (by decide) hx hy kt kf
theorem s95_43 {S : Nat × (Nat → Int32)} {L : List (Option Value)} {st : List Value} {n : Nat} {Q : xQ} {μ : xM}  (h : x_V S 95 45 L (.int (I 16) :: st) μ n Q) : x_V S 95 43 L (st) μ n Q := x_bipush (by decide +kernel) d95_43 h
theorem s95_45 {S : Nat × (Nat → Int32)} {L : List (Option Value)} {st : List Value} {n : Nat} {Q : xQ} {μ : xM}  (h : x_V S 95 49 L (st) μ n Q) : x_V S 95 45 L (st) μ n Q := x_goto (tgt := 49) (by decide) d95_45 h
theorem s95_48 {S : Nat × (Nat → Int32)} {L : List (Option Value)} {st : List Value} {n : Nat} {Q : xQ} {μ : xM}  (h : x_V S 95 49 L (.int (I 0) :: st) μ n Q) : x_V S 95 48 L (st) μ n Q := x_iconst (by decide +kernel) d95_48 h
theorem s95_49 {S : Nat × (Nat → Int32)} {L : List (Option Value)} {st : List Value} {n : Nat} {Q : xQ} {μ : xM} {x : Int32} (h : Q (.inl (some (.int x))) μ n) : x_V S 95 49 L (.int x :: []) μ n Q := x_ireturn d95_49 rfl rfl h
theorem s95_50 {S : Nat × (Nat → Int32)} {L : List (Option Value)} {st : List Value} {n : Nat} {Q : xQ} {μ : xM} {x : Int32} (hl : L[0]? = some (some (.int x))) (h : x_V S 95 51 L (.int x :: st) μ n Q) : x_V S 95 50 L (st) μ n Q := x_iload_n d95_50 hl h
theorem s95_51 {S : Nat × (Nat → Int32)} {L : List (Option Value)} {st : List Value} {n : Nat} {Q : xQ} {μ : xM}  (h : x_V S 95 53 L (.int (I 52) :: st) μ n Q) : x_V S 95 51 L (st) μ n Q := x_bipush (by decide +kernel) d95_51 h
theorem s95_53 {S : Nat × (Nat → Int32)} {L : List (Option Value)} {st : List Value} {n : Nat} {Q : xQ} {μ : xM} {x y : Int} (hx : ib x) (hy : ib y) (kt : x ≠ y → x_V S 95 77 L (st) μ n Q) (kf : x = y → x_V S 95 56 L (st) μ n Q) : x_V S 95 53 L (.int (I y) :: .int (I x) :: st) μ n Q := v_icmp_ne d95_53 (by decide) hx hy kt kf
theorem s95_56 {S : Nat × (Nat → Int32)} {L : List (Option Value)} {st : List Value} {n : Nat} {Q : xQ} {μ : xM} {x : Int32} (hl : L[1]? = some (some (.int x))) (h : x_V S 95 57 L (.int x :: st) μ n Q) : x_V S 95 56 L (st) μ n Q := x_iload_n d95_56 hl h
theorem s95_57 {S : Nat × (Nat → Int32)} {L : List (Option Value)} {st : List Value} {n : Nat} {Q : xQ} {μ : xM} {x : Int} (hx : ib x) (kt : x ≠ 0 → x_V S 95 65 L (st) μ n Q) (kf : x = 0 → x_V S 95 60 L (st) μ n Q) : x_V S 95 57 L (.int (I x) :: st) μ n Q := v_if_ne d95_57 (by decide) hx kt kf
theorem s95_60 {S : Nat × (Nat → Int32)} {L : List (Option Value)} {st : List Value} {n : Nat} {Q : xQ} {μ : xM}  (h : x_V S 95 62 L (.int (I 36) :: st) μ n Q) : x_V S 95 60 L (st) μ n Q := x_bipush (by decide +kernel) d95_60 h
theorem s95_62 {S : Nat × (Nat → Int32)} {L : List (Option Value)} {st : List Value} {n : Nat} {Q : xQ} {μ : xM}  (h : x_V S 95 76 L (st) μ n Q) : x_V S 95 62 L (st) μ n Q := x_goto (tgt := 76) (by decide) d95_62 h
theorem s95_65 {S : Nat × (Nat → Int32)} {L : List (Option Value)} {st : List Value} {n : Nat} {Q : xQ} {μ : xM} {x : Int32} (hl : L[1]? = some (some (.int x))) (h : x_V S 95 66 L (.int x :: st) μ n Q) : x_V S 95 65 L (st) μ n Q := x_iload_n d95_65 hl h
theorem s95_66 {S : Nat × (Nat → Int32)} {L : List (Option Value)} {st : List Value} {n : Nat} {Q : xQ} {μ : xM}  (h : x_V S 95 67 L (.int (I 1) :: st) μ n Q) : x_V S 95 66 L (st) μ n Q := x_iconst (by decide +kernel) d95_66 h
theorem s95_67 {S : Nat × (Nat → Int32)} {L : List (Option Value)} {st : List Value} {n : Nat} {Q : xQ} {μ : xM} {x y : Int} (hx : ib x) (hy : ib y) (kt : x ≠ y → x_V S 95 75 L (st) μ n Q) (kf : x = y → x_V S 95 70 L (st) μ n Q) : x_V S 95 67 L (.int (I y) :: .int (I x) :: st) μ n Q := v_icmp_ne d95_67 (by decide) hx hy kt kf
theorem s95_70 {S : Nat × (Nat → Int32)} {L : List (Option Value)} {st : List Value} {n : Nat} {Q : xQ} {μ : xM}  (h : x_V S 95 72 L (.int (I 123) :: st) μ n Q) : x_V S 95 70 L (st) μ n Q := x_bipush (by decide +kernel) d95_70 h
theorem s95_72 {S : Nat × (Nat → Int32)} {L : List (Option Value)} {st : List Value} {n : Nat} {Q : xQ} {μ : xM}  (h : x_V S 95 76 L (st) μ n Q) : x_V S 95 72 L (st) μ n Q := x_goto (tgt := 76) (by decide) d95_72 h
theorem s95_75 {S : Nat × (Nat → Int32)} {L : List (Option Value)} {st : List Value} {n : Nat} {Q : xQ} {μ : xM}  (h : x_V S 95 76 L (.int (I 0) :: st) μ n Q) : x_V S 95 75 L (st) μ n Q := x_iconst (by decide +kernel) d95_75 h
theorem s95_76 {S : Nat × (Nat → Int32)} {L : List (Option Value)} {st : List Value} {n : Nat} {Q : xQ} {μ : xM} {x : Int32} (h : Q (.inl (some (.int x))) μ n) : x_V S 95 76 L (.int x :: []) μ n Q := x_ireturn d95_76 rfl rfl h
theorem s95_77 {S : Nat × (Nat → Int32)} {L : List (Option Value)} {st : List Value} {n : Nat} {Q : xQ} {μ : xM} {x : Int32} (hl : L[0]? = some (some (.int x))) (h : x_V S 95 78 L (.int x :: st) μ n Q) : x_V S 95 77 L (st) μ n Q := x_iload_n d95_77 hl h
theorem s95_78 {S : Nat × (Nat → Int32)} {L : List (Option Value)} {st : List Value} {n : Nat} {Q : xQ} {μ : xM}  (h : x_V S 95 80 L (.int (I 65) :: st) μ n Q) : x_V S 95 78 L (st) μ n Q := x_bipush (by decide +kernel) d95_78 h
theorem s95_80 {S : Nat × (Nat → Int32)} {L : List (Option Value)} {st : List Value} {n : Nat} {Q : xQ} {μ : xM} {x y : Int} (hx : ib x) (hy : ib y) (kt : x ≠ y → x_V S 95 94 L (st) μ n Q) (kf : x = y → x_V S 95 83 L (st) μ n Q) : x_V S 95 80 L (.int (I y) :: .int (I x) :: st) μ n Q := v_icmp_ne d95_80 (by decide) hx hy kt kf
theorem s95_83 {S : Nat × (Nat → Int32)} {L : List (Option Value)} {st : List Value} {n : Nat} {Q : xQ} {μ : xM} {x : Int32} (hl : L[1]? = some (some (.int x))) (h : x_V S 95 84 L (.int x :: st) μ n Q) : x_V S 95 83 L (st) μ n Q := x_iload_n d95_83 hl h
theorem s95_84 {S : Nat × (Nat → Int32)} {L : List (Option Value)} {st : List Value} {n : Nat} {Q : xQ} {μ : xM} {x : Int} (hx : ib x) (kt : x ≠ 0 → x_V S 95 92 L (st) μ n Q) (kf : x = 0 → x_V S 95 87 L (st) μ n Q) : x_V S 95 84 L (.int (I x) :: st) μ n Q := v_if_ne d95_84 (by decide) hx kt kf
theorem s95_87 {S : Nat × (Nat → Int32)} {L : List (Option Value)} {st : List Value} {n : Nat} {Q : xQ} {μ : xM}  (h : x_V S 95 89 L (.int (I 108) :: st) μ n Q) : x_V S 95 87 L (st) μ n Q := x_bipush (by decide +kernel) d95_87 h
theorem s95_89 {S : Nat × (Nat → Int32)} {L : List (Option Value)} {st : List Value} {n : Nat} {Q : xQ} {μ : xM}  (h : x_V S 95 93 L (st) μ n Q) : x_V S 95 89 L (st) μ n Q := x_goto (tgt := 93) (by decide) d95_89 h
theorem s95_92 {S : Nat × (Nat → Int32)} {L : List (Option Value)} {st : List Value} {n : Nat} {Q : xQ} {μ : xM}  (h : x_V S 95 93 L (.int (I 0) :: st) μ n Q) : x_V S 95 92 L (st) μ n Q := x_iconst (by decide +kernel) d95_92 h
theorem s95_93 {S : Nat × (Nat → Int32)} {L : List (Option Value)} {st : List Value} {n : Nat} {Q : xQ} {μ : xM} {x : Int32} (h : Q (.inl (some (.int x))) μ n) : x_V S 95 93 L (.int x :: []) μ n Q := x_ireturn d95_93 rfl rfl h
theorem s95_94 {S : Nat × (Nat → Int32)} {L : List (Option Value)} {st : List Value} {n : Nat} {Q : xQ} {μ : xM} {x : Int32} (hl : L[0]? = some (some (.int x))) (h : x_V S 95 95 L (.int x :: st) μ n Q) : x_V S 95 94 L (st) μ n Q := x_iload_n d95_94 hl h
theorem s95_95 {S : Nat × (Nat → Int32)} {L : List (Option Value)} {st : List Value} {n : Nat} {Q : xQ} {μ : xM}  (h : x_V S 95 97 L (.int (I 68) :: st) μ n Q) : x_V S 95 95 L (st) μ n Q := x_bipush (by decide +kernel) d95_95 h
theorem s95_97 {S : Nat × (Nat → Int32)} {L : List (Option Value)} {st : List Value} {n : Nat} {Q : xQ} {μ : xM} {x y : Int} (hx : ib x) (hy : ib y) (kt : x ≠ y → x_V S 95 131 L (st) μ n Q) (kf : x = y → x_V S 95 100 L (st) μ n Q) : x_V S 95 97 L (.int (I y) :: .int (I x) :: st) μ n Q := v_icmp_ne d95_97 (by decide) hx hy kt kf
theorem s95_100 {S : Nat × (Nat → Int32)} {L : List (Option Value)} {st : List Value} {n : Nat} {Q : xQ} {μ : xM} {x : Int32} (hl : L[1]? = some (some (.int x))) (h : x_V S 95 101 L (.int x :: st) μ n Q) : x_V S 95 100 L (st) μ n Q := x_iload_n d95_100 hl h
theorem s95_101 {S : Nat × (Nat → Int32)} {L : List (Option Value)} {st : List Value} {n : Nat} {Q : xQ} {μ : xM} {x : Int} (hx : ib x) (kt : x ≠ 0 → x_V S 95 109 L (st) μ n Q) (kf : x = 0 → x_V S 95 104 L (st) μ n Q) : x_V S 95 101 L (.int (I x) :: st) μ n Q := v_if_ne d95_101 (by decide) hx kt kf
theorem s95_104 {S : Nat × (Nat → Int32)} {L : List (Option Value)} {st : List Value} {n : Nat} {Q : xQ} {μ : xM}  (h : x_V S 95 106 L (.int (I 11) :: st) μ n Q) : x_V S 95 104 L (st) μ n Q := x_bipush (by decide +kernel) d95_104 h
theorem s95_106 {S : Nat × (Nat → Int32)} {L : List (Option Value)} {st : List Value} {n : Nat} {Q : xQ} {μ : xM}  (h : x_V S 95 130 L (st) μ n Q) : x_V S 95 106 L (st) μ n Q := x_goto (tgt := 130) (by decide) d95_106 h
theorem s95_109 {S : Nat × (Nat → Int32)} {L : List (Option Value)} {st : List Value} {n : Nat} {Q : xQ} {μ : xM} {x : Int32} (hl : L[1]? = some (some (.int x))) (h : x_V S 95 110 L (.int x :: st) μ n Q) : x_V S 95 109 L (st) μ n Q := x_iload_n d95_109 hl h
theorem s95_110 {S : Nat × (Nat → Int32)} {L : List (Option Value)} {st : List Value} {n : Nat} {Q : xQ} {μ : xM}  (h : x_V S 95 111 L (.int (I 1) :: st) μ n Q) : x_V S 95 110 L (st) μ n Q := x_iconst (by decide +kernel) d95_110 h
theorem s95_111 {S : Nat × (Nat → Int32)} {L : List (Option Value)} {st : List Value} {n : Nat} {Q : xQ} {μ : xM} {x y : Int} (hx : ib x) (hy : ib y) (kt : x ≠ y → x_V S 95 119 L (st) μ n Q) (kf : x = y → x_V S 95 114 L (st) μ n Q) : x_V S 95 111 L (.int (I y) :: .int (I x) :: st) μ n Q := v_icmp_ne d95_111 (by decide) hx hy kt kf
theorem s95_114 {S : Nat × (Nat → Int32)} {L : List (Option Value)} {st : List Value} {n : Nat} {Q : xQ} {μ : xM}  (h : x_V S 95 116 L (.int (I 54) :: st) μ n Q) : x_V S 95 114 L (st) μ n Q := x_bipush (by decide +kernel) d95_114 h
theorem s95_116 {S : Nat × (Nat → Int32)} {L : List (Option Value)} {st : List Value} {n : Nat} {Q : xQ} {μ : xM}  (h : x_V S 95 130 L (st) μ n Q) : x_V S 95 116 L (st) μ n Q := x_goto (tgt := 130) (by decide) d95_116 h
theorem s95_119 {S : Nat × (Nat → Int32)} {L : List (Option Value)} {st : List Value} {n : Nat} {Q : xQ} {μ : xM} {x : Int32} (hl : L[1]? = some (some (.int x))) (h : x_V S 95 120 L (.int x :: st) μ n Q) : x_V S 95 119 L (st) μ n Q := x_iload_n d95_119 hl h
theorem s95_120 {S : Nat × (Nat → Int32)} {L : List (Option Value)} {st : List Value} {n : Nat} {Q : xQ} {μ : xM}  (h : x_V S 95 121 L (.int (I 2) :: st) μ n Q) : x_V S 95 120 L (st) μ n Q := x_iconst (by decide +kernel) d95_120 h
theorem s95_121 {S : Nat × (Nat → Int32)} {L : List (Option Value)} {st : List Value} {n : Nat} {Q : xQ} {μ : xM} {x y : Int} (hx : ib x) (hy : ib y) (kt : x ≠ y → x_V S 95 129 L (st) μ n Q) (kf : x = y → x_V S 95 124 L (st) μ n Q) : x_V S 95 121 L (.int (I y) :: .int (I x) :: st) μ n Q := v_icmp_ne d95_121 (by decide) hx hy kt kf
theorem s95_124 {S : Nat × (Nat → Int32)} {L : List (Option Value)} {st : List Value} {n : Nat} {Q : xQ} {μ : xM}  (h : x_V S 95 126 L (.int (I 38) :: st) μ n Q) : x_V S 95 124 L (st) μ n Q := x_bipush (by decide +kernel) d95_124 h
theorem s95_126 {S : Nat × (Nat → Int32)} {L : List (Option Value)} {st : List Value} {n : Nat} {Q : xQ} {μ : xM}  (h : x_V S 95 130 L (st) μ n Q) : x_V S 95 126 L (st) μ n Q := x_goto (tgt := 130) (by decide) d95_126 h
theorem s95_129 {S : Nat × (Nat → Int32)} {L : List (Option Value)} {st : List Value} {n : Nat} {Q : xQ} {μ : xM}  (h : x_V S 95 130 L (.int (I 0) :: st) μ n Q) : x_V S 95 129 L (st) μ n Q := x_iconst (by decide +kernel) d95_129 h
theorem s95_130 {S : Nat × (Nat → Int32)} {L : List (Option Value)} {st : List Value} {n : Nat} {Q : xQ} {μ : xM} {x : Int32} (h : Q (.inl (some (.int x))) μ n) : x_V S 95 130 L (.int x :: []) μ n Q := x_ireturn d95_130 rfl rfl h
theorem s95_131 {S : Nat × (Nat → Int32)} {L : List (Option Value)} {st : List Value} {n : Nat} {Q : xQ} {μ : xM} {x : Int32} (hl : L[0]? = some (some (.int x))) (h : x_V S 95 132 L (.int x :: st) μ n Q) : x_V S 95 131 L (st) μ n Q := x_iload_n d95_131 hl h
theorem s95_132 {S : Nat × (Nat → Int32)} {L : List (Option Value)} {st : List Value} {n : Nat} {Q : xQ} {μ : xM}  (h : x_V S 95 134 L (.int (I 70) :: st) μ n Q) : x_V S 95 132 L (st) μ n Q := x_bipush (by decide +kernel) d95_132 h
theorem s95_134 {S : Nat × (Nat → Int32)} {L : List (Option Value)} {st : List Value} {n : Nat} {Q : xQ} {μ : xM} {x y : Int} (hx : ib x) (hy : ib y) (kt : x = y → x_V S 95 143 L (st) μ n Q) (kf : x ≠ y → x_V S 95 137 L (st) μ n Q) : x_V S 95 134 L (.int (I y) :: .int (I x) :: st) μ n Q := v_icmp_eq d95_134 (by decide) hx hy kt kf
theorem s95_137 {S : Nat × (Nat → Int32)} {L : List (Option Value)} {st : List Value} {n : Nat} {Q : xQ} {μ : xM} {x : Int32} (hl : L[0]? = some (some (.int x))) (h : x_V S 95 138 L (.int x :: st) μ n Q) : x_V S 95 137 L (st) μ n Q := x_iload_n d95_137 hl h
theorem s95_138 {S : Nat × (Nat → Int32)} {L : List (Option Value)} {st : List Value} {n : Nat} {Q : xQ} {μ : xM}  (h : x_V S 95 140 L (.int (I 71) :: st) μ n Q) : x_V S 95 138 L (st) μ n Q := x_bipush (by decide +kernel) d95_138 h
theorem s95_140 {S : Nat × (Nat → Int32)} {L : List (Option Value)} {st : List Value} {n : Nat} {Q : xQ} {μ : xM} {x y : Int} (hx : ib x) (hy : ib y) (kt : x ≠ y → x_V S 95 180 L (st) μ n Q) (kf : x = y → x_V S 95 143 L (st) μ n Q) : x_V S 95 140 L (.int (I y) :: .int (I x) :: st) μ n Q := v_icmp_ne d95_140 (by decide) hx hy kt kf
theorem s95_143 {S : Nat × (Nat → Int32)} {L : List (Option Value)} {st : List Value} {n : Nat} {Q : xQ} {μ : xM} {x : Int32} (hl : L[1]? = some (some (.int x))) (h : x_V S 95 144 L (.int x :: st) μ n Q) : x_V S 95 143 L (st) μ n Q := x_iload_n d95_143 hl h
theorem s95_144 {S : Nat × (Nat → Int32)} {L : List (Option Value)} {st : List Value} {n : Nat} {Q : xQ} {μ : xM} {x : Int} (hx : ib x) (kt : x ≠ 0 → x_V S 95 152 L (st) μ n Q) (kf : x = 0 → x_V S 95 147 L (st) μ n Q) : x_V S 95 144 L (.int (I x) :: st) μ n Q := v_if_ne d95_144 (by decide) hx kt kf
theorem s95_147 {S : Nat × (Nat → Int32)} {L : List (Option Value)} {st : List Value} {n : Nat} {Q : xQ} {μ : xM}  (h : x_V S 95 149 L (.int (I 11) :: st) μ n Q) : x_V S 95 147 L (st) μ n Q := x_bipush (by decide +kernel) d95_147 h
theorem s95_149 {S : Nat × (Nat → Int32)} {L : List (Option Value)} {st : List Value} {n : Nat} {Q : xQ} {μ : xM}  (h : x_V S 95 179 L (st) μ n Q) : x_V S 95 149 L (st) μ n Q := x_goto (tgt := 179) (by decide) d95_149 h
theorem s95_152 {S : Nat × (Nat → Int32)} {L : List (Option Value)} {st : List Value} {n : Nat} {Q : xQ} {μ : xM} {x : Int32} (hl : L[1]? = some (some (.int x))) (h : x_V S 95 153 L (.int x :: st) μ n Q) : x_V S 95 152 L (st) μ n Q := x_iload_n d95_152 hl h
theorem s95_153 {S : Nat × (Nat → Int32)} {L : List (Option Value)} {st : List Value} {n : Nat} {Q : xQ} {μ : xM}  (h : x_V S 95 154 L (.int (I 1) :: st) μ n Q) : x_V S 95 153 L (st) μ n Q := x_iconst (by decide +kernel) d95_153 h
theorem s95_154 {S : Nat × (Nat → Int32)} {L : List (Option Value)} {st : List Value} {n : Nat} {Q : xQ} {μ : xM} {x y : Int} (hx : ib x) (hy : ib y) (kt : x ≠ y → x_V S 95 162 L (st) μ n Q) (kf : x = y → x_V S 95 157 L (st) μ n Q) : x_V S 95 154 L (.int (I y) :: .int (I x) :: st) μ n Q := v_icmp_ne d95_154 (by decide) hx hy kt kf
theorem s95_157 {S : Nat × (Nat → Int32)} {L : List (Option Value)} {st : List Value} {n : Nat} {Q : xQ} {μ : xM}  (h : x_V S 95 159 L (.int (I 41) :: st) μ n Q) : x_V S 95 157 L (st) μ n Q := x_bipush (by decide +kernel) d95_157 h
theorem s95_159 {S : Nat × (Nat → Int32)} {L : List (Option Value)} {st : List Value} {n : Nat} {Q : xQ} {μ : xM}  (h : x_V S 95 179 L (st) μ n Q) : x_V S 95 159 L (st) μ n Q := x_goto (tgt := 179) (by decide) d95_159 h
theorem s95_162 {S : Nat × (Nat → Int32)} {L : List (Option Value)} {st : List Value} {n : Nat} {Q : xQ} {μ : xM} {x : Int32} (hl : L[1]? = some (some (.int x))) (h : x_V S 95 163 L (.int x :: st) μ n Q) : x_V S 95 162 L (st) μ n Q := x_iload_n d95_162 hl h
theorem s95_163 {S : Nat × (Nat → Int32)} {L : List (Option Value)} {st : List Value} {n : Nat} {Q : xQ} {μ : xM}  (h : x_V S 95 164 L (.int (I 2) :: st) μ n Q) : x_V S 95 163 L (st) μ n Q := x_iconst (by decide +kernel) d95_163 h
theorem s95_164 {S : Nat × (Nat → Int32)} {L : List (Option Value)} {st : List Value} {n : Nat} {Q : xQ} {μ : xM} {x y : Int} (hx : ib x) (hy : ib y) (kt : x ≠ y → x_V S 95 178 L (st) μ n Q) (kf : x = y → x_V S 95 167 L (st) μ n Q) : x_V S 95 164 L (.int (I y) :: .int (I x) :: st) μ n Q := v_icmp_ne d95_164 (by decide) hx hy kt kf
theorem s95_167 {S : Nat × (Nat → Int32)} {L : List (Option Value)} {st : List Value} {n : Nat} {Q : xQ} {μ : xM} {x : Int32} (hl : L[0]? = some (some (.int x))) (h : x_V S 95 168 L (.int x :: st) μ n Q) : x_V S 95 167 L (st) μ n Q := x_iload_n d95_167 hl h
theorem s95_168 {S : Nat × (Nat → Int32)} {L : List (Option Value)} {st : List Value} {n : Nat} {Q : xQ} {μ : xM}  (h : x_V S 95 170 L (.int (I 71) :: st) μ n Q) : x_V S 95 168 L (st) μ n Q := x_bipush (by decide +kernel) d95_168 h
theorem s95_170 {S : Nat × (Nat → Int32)} {L : List (Option Value)} {st : List Value} {n : Nat} {Q : xQ} {μ : xM} {x y : Int} (hx : ib x) (hy : ib y) (kt : x ≠ y → x_V S 95 178 L (st) μ n Q) (kf : x = y → x_V S 95 173 L (st) μ n Q) : x_V S 95 170 L (.int (I y) :: .int (I x) :: st) μ n Q := v_icmp_ne d95_170 (by decide) hx hy kt kf
theorem s95_173 {S : Nat × (Nat → Int32)} {L : List (Option Value)} {st : List Value} {n : Nat} {Q : xQ} {μ : xM}  (h : x_V S 95 175 L (.int (I 38) :: st) μ n Q) : x_V S 95 173 L (st) μ n Q := x_bipush (by decide +kernel) d95_173 h
theorem s95_175 {S : Nat × (Nat → Int32)} {L : List (Option Value)} {st : List Value} {n : Nat} {Q : xQ} {μ : xM}  (h : x_V S 95 179 L (st) μ n Q) : x_V S 95 175 L (st) μ n Q := x_goto (tgt := 179) (by decide) d95_175 h
theorem s95_178 {S : Nat × (Nat → Int32)} {L : List (Option Value)} {st : List Value} {n : Nat} {Q : xQ} {μ : xM}  (h : x_V S 95 179 L (.int (I 0) :: st) μ n Q) : x_V S 95 178 L (st) μ n Q := x_iconst (by decide +kernel) d95_178 h
theorem s95_179 {S : Nat × (Nat → Int32)} {L : List (Option Value)} {st : List Value} {n : Nat} {Q : xQ} {μ : xM} {x : Int32} (h : Q (.inl (some (.int x))) μ n) : x_V S 95 179 L (.int x :: []) μ n Q := x_ireturn d95_179 rfl rfl h
theorem s95_180 {S : Nat × (Nat → Int32)} {L : List (Option Value)} {st : List Value} {n : Nat} {Q : xQ} {μ : xM} {x : Int32} (hl : L[0]? = some (some (.int x))) (h : x_V S 95 181 L (.int x :: st) μ n Q) : x_V S 95 180 L (st) μ n Q := x_iload_n d95_180 hl h
theorem s95_181 {S : Nat × (Nat → Int32)} {L : List (Option Value)} {st : List Value} {n : Nat} {Q : xQ} {μ : xM}  (h : x_V S 95 183 L (.int (I 56) :: st) μ n Q) : x_V S 95 181 L (st) μ n Q := x_bipush (by decide +kernel) d95_181 h
theorem s95_183 {S : Nat × (Nat → Int32)} {L : List (Option Value)} {st : List Value} {n : Nat} {Q : xQ} {μ : xM} {x y : Int} (hx : ib x) (hy : ib y) (kt : x ≠ y → x_V S 95 219 L (st) μ n Q) (kf : x = y → x_V S 95 186 L (st) μ n Q) : x_V S 95 183 L (.int (I y) :: .int (I x) :: st) μ n Q := v_icmp_ne d95_183 (by decide) hx hy kt kf
theorem s95_186 {S : Nat × (Nat → Int32)} {L : List (Option Value)} {st : List Value} {n : Nat} {Q : xQ} {μ : xM} {x : Int32} (hl : L[1]? = some (some (.int x))) (h : x_V S 95 187 L (.int x :: st) μ n Q) : x_V S 95 186 L (st) μ n Q := x_iload_n d95_186 hl h
theorem s95_187 {S : Nat × (Nat → Int32)} {L : List (Option Value)} {st : List Value} {n : Nat} {Q : xQ} {μ : xM} {x : Int} (hx : ib x) (kt : x ≠ 0 → x_V S 95 195 L (st) μ n Q) (kf : x = 0 → x_V S 95 190 L (st) μ n Q) : x_V S 95 187 L (.int (I x) :: st) μ n Q := v_if_ne d95_187 (by decide) hx kt kf
theorem s95_190 {S : Nat × (Nat → Int32)} {L : List (Option Value)} {st : List Value} {n : Nat} {Q : xQ} {μ : xM}  (h : x_V S 95 192 L (.int (I 11) :: st) μ n Q) : x_V S 95 190 L (st) μ n Q := x_bipush (by decide +kernel) d95_190 h
theorem s95_192 {S : Nat × (Nat → Int32)} {L : List (Option Value)} {st : List Value} {n : Nat} {Q : xQ} {μ : xM}  (h : x_V S 95 218 L (st) μ n Q) : x_V S 95 192 L (st) μ n Q := x_goto (tgt := 218) (by decide) d95_192 h
theorem s95_195 {S : Nat × (Nat → Int32)} {L : List (Option Value)} {st : List Value} {n : Nat} {Q : xQ} {μ : xM} {x : Int32} (hl : L[1]? = some (some (.int x))) (h : x_V S 95 196 L (.int x :: st) μ n Q) : x_V S 95 195 L (st) μ n Q := x_iload_n d95_195 hl h
theorem s95_196 {S : Nat × (Nat → Int32)} {L : List (Option Value)} {st : List Value} {n : Nat} {Q : xQ} {μ : xM}  (h : x_V S 95 197 L (.int (I 1) :: st) μ n Q) : x_V S 95 196 L (st) μ n Q := x_iconst (by decide +kernel) d95_196 h
theorem s95_197 {S : Nat × (Nat → Int32)} {L : List (Option Value)} {st : List Value} {n : Nat} {Q : xQ} {μ : xM} {x y : Int} (hx : ib x) (hy : ib y) (kt : x ≠ y → x_V S 95 205 L (st) μ n Q) (kf : x = y → x_V S 95 200 L (st) μ n Q) : x_V S 95 197 L (.int (I y) :: .int (I x) :: st) μ n Q := v_icmp_ne d95_197 (by decide) hx hy kt kf
theorem s95_200 {S : Nat × (Nat → Int32)} {L : List (Option Value)} {st : List Value} {n : Nat} {Q : xQ} {μ : xM}  (h : x_V S 95 202 L (.int (I 39) :: st) μ n Q) : x_V S 95 200 L (st) μ n Q := x_bipush (by decide +kernel) d95_200 h
theorem s95_202 {S : Nat × (Nat → Int32)} {L : List (Option Value)} {st : List Value} {n : Nat} {Q : xQ} {μ : xM}  (h : x_V S 95 218 L (st) μ n Q) : x_V S 95 202 L (st) μ n Q := x_goto (tgt := 218) (by decide) d95_202 h
theorem s95_205 {S : Nat × (Nat → Int32)} {L : List (Option Value)} {st : List Value} {n : Nat} {Q : xQ} {μ : xM} {x : Int32} (hl : L[1]? = some (some (.int x))) (h : x_V S 95 206 L (.int x :: st) μ n Q) : x_V S 95 205 L (st) μ n Q := x_iload_n d95_205 hl h
theorem s95_206 {S : Nat × (Nat → Int32)} {L : List (Option Value)} {st : List Value} {n : Nat} {Q : xQ} {μ : xM}  (h : x_V S 95 207 L (.int (I 2) :: st) μ n Q) : x_V S 95 206 L (st) μ n Q := x_iconst (by decide +kernel) d95_206 h
theorem s95_207 {S : Nat × (Nat → Int32)} {L : List (Option Value)} {st : List Value} {n : Nat} {Q : xQ} {μ : xM} {x y : Int} (hx : ib x) (hy : ib y) (kt : x ≠ y → x_V S 95 215 L (st) μ n Q) (kf : x = y → x_V S 95 210 L (st) μ n Q) : x_V S 95 207 L (.int (I y) :: .int (I x) :: st) μ n Q := v_icmp_ne d95_207 (by decide) hx hy kt kf
theorem s95_210 {S : Nat × (Nat → Int32)} {L : List (Option Value)} {st : List Value} {n : Nat} {Q : xQ} {μ : xM}  (h : x_V S 95 212 L (.int (I 14) :: st) μ n Q) : x_V S 95 210 L (st) μ n Q := x_bipush (by decide +kernel) d95_210 h
theorem s95_212 {S : Nat × (Nat → Int32)} {L : List (Option Value)} {st : List Value} {n : Nat} {Q : xQ} {μ : xM}  (h : x_V S 95 218 L (st) μ n Q) : x_V S 95 212 L (st) μ n Q := x_goto (tgt := 218) (by decide) d95_212 h
theorem s95_215 {S : Nat × (Nat → Int32)} {L : List (Option Value)} {st : List Value} {n : Nat} {Q : xQ} {μ : xM}  (h : x_V S 95 218 L (.int (I 151) :: st) μ n Q) : x_V S 95 215 L (st) μ n Q := x_sipush (by decide +kernel) d95_215 h
theorem s95_218 {S : Nat × (Nat → Int32)} {L : List (Option Value)} {st : List Value} {n : Nat} {Q : xQ} {μ : xM} {x : Int32} (h : Q (.inl (some (.int x))) μ n) : x_V S 95 218 L (.int x :: []) μ n Q := x_ireturn d95_218 rfl rfl h
theorem s95_219 {S : Nat × (Nat → Int32)} {L : List (Option Value)} {st : List Value} {n : Nat} {Q : xQ} {μ : xM}  (h : x_V S 95 220 L (.int (I 0) :: st) μ n Q) : x_V S 95 219 L (st) μ n Q := x_iconst (by decide +kernel) d95_219 h
theorem s95_220 {S : Nat × (Nat → Int32)} {L : List (Option Value)} {st : List Value} {n : Nat} {Q : xQ} {μ : xM} {x : Int32} (h : Q (.inl (some (.int x))) μ n) : x_V S 95 220 L (.int x :: []) μ n Q := x_ireturn d95_220 rfl rfl h
theorem mC_96 : mC 96 = prog_12_method_14_code := rfl
theorem d96_0 : decode (mC 96) 0 = .ok (.aload_n 0, 1) := by rw [mC_96]; decide +kernel
theorem d96_1 : decode (mC 96) 1 = .ok (.iconst 0, 1) := by rw [mC_96]; decide +kernel
theorem d96_2 : decode (mC 96) 2 = .ok (.putfield 73, 3) := by rw [mC_96]; decide +kernel
theorem d96_5 : decode (mC 96) 5 = .ok (.aload_n 0, 1) := by rw [mC_96]; decide +kernel
theorem d96_6 : decode (mC 96) 6 = .ok (.aload_n 0, 1) := by rw [mC_96]; decide +kernel
theorem d96_7 : decode (mC 96) 7 = .ok (.getfield 63, 3) := by rw [mC_96]; decide +kernel
theorem d96_10 : decode (mC 96) 10 = .ok (.ifCond .eq 7, 3) := by rw [mC_96]; decide +kernel
theorem d96_13 : decode (mC 96) 13 = .ok (.iconst 0, 1) := by rw [mC_96]; decide +kernel
theorem d96_14 : decode (mC 96) 14 = .ok (.goto 7, 3) := by rw [mC_96]; decide +kernel
theorem d96_17 : decode (mC 96) 17 = .ok (.aload_n 0, 1) := by rw [mC_96]; decide +kernel
theorem d96_18 : decode (mC 96) 18 = .ok (.getfield 67, 3) := by rw [mC_96]; decide +kernel
theorem d96_21 : decode (mC 96) 21 = .ok (.putfield 67, 3) := by rw [mC_96]; decide +kernel
theorem d96_24 : decode (mC 96) 24 = .ok (.aload_n 0, 1) := by rw [mC_96]; decide +kernel
theorem d96_25 : decode (mC 96) 25 = .ok (.bipush 8, 2) := by rw [mC_96]; decide +kernel
theorem d96_27 : decode (mC 96) 27 = .ok (.bipush 70, 2) := by rw [mC_96]; decide +kernel
theorem d96_29 : decode (mC 96) 29 = .ok (.invokevirtual 94, 3) := by rw [mC_96]; decide +kernel
theorem d96_32 : decode (mC 96) 32 = .ok (.aload_n 0, 1) := by rw [mC_96]; decide +kernel
theorem d96_33 : decode (mC 96) 33 = .ok (.bipush 9, 2) := by rw [mC_96]; decide +kernel
theorem d96_35 : decode (mC 96) 35 = .ok (.iconst 5, 1) := by rw [mC_96]; decide +kernel
theorem d96_36 : decode (mC 96) 36 = .ok (.bipush 34, 2) := by rw [mC_96]; decide +kernel
theorem d96_38 : decode (mC 96) 38 = .ok (.iload_n 2, 1) := by rw [mC_96]; decide +kernel
theorem d96_39 : decode (mC 96) 39 = .ok (.invokestatic 91, 3) := by rw [mC_96]; decide +kernel
theorem d96_42 : decode (mC 96) 42 = .ok (.iadd, 1) := by rw [mC_96]; decide +kernel
theorem d96_43 : decode (mC 96) 43 = .ok (.iload_n 3, 1) := by rw [mC_96]; decide +kernel
theorem d96_44 : decode (mC 96) 44 = .ok (.ifCond .eq 7, 3) := by rw [mC_96]; decide +kernel
theorem d96_47 : decode (mC 96) 47 = .ok (.iconst 5, 1) := by rw [mC_96]; decide +kernel
theorem d96_48 : decode (mC 96) 48 = .ok (.goto 4, 3) := by rw [mC_96]; decide +kernel
theorem d96_51 : decode (mC 96) 51 = .ok (.iconst 0, 1) := by rw [mC_96]; decide +kernel
theorem d96_52 : decode (mC 96) 52 = .ok (.iadd, 1) := by rw [mC_96]; decide +kernel
theorem d96_53 : decode (mC 96) 53 = .ok (.aload_n 0, 1) := by rw [mC_96]; decide +kernel
theorem d96_54 : decode (mC 96) 54 = .ok (.iload_n 1, 1) := by rw [mC_96]; decide +kernel
theorem d96_55 : decode (mC 96) 55 = .ok (.iload 4, 2) := by rw [mC_96]; decide +kernel
theorem d96_57 : decode (mC 96) 57 = .ok (.iload 5, 2) := by rw [mC_96]; decide +kernel
theorem d96_59 : decode (mC 96) 59 = .ok (.iload 6, 2) := by rw [mC_96]; decide +kernel
theorem d96_61 : decode (mC 96) 61 = .ok (.iload 7, 2) := by rw [mC_96]; decide +kernel
theorem d96_63 : decode (mC 96) 63 = .ok (.iconst 0, 1) := by rw [mC_96]; decide +kernel
theorem d96_64 : decode (mC 96) 64 = .ok (.invokevirtual 101, 3) := by rw [mC_96]; decide +kernel
theorem d96_67 : decode (mC 96) 67 = .ok (.iadd, 1) := by rw [mC_96]; decide +kernel
theorem d96_68 : decode (mC 96) 68 = .ok (.invokevirtual 98, 3) := by rw [mC_96]; decide +kernel
theorem d96_71 : decode (mC 96) 71 = .ok (.aload_n 0, 1) := by rw [mC_96]; decide +kernel
theorem d96_72 : decode (mC 96) 72 = .ok (.bipush 35, 2) := by rw [mC_96]; decide +kernel
theorem d96_74 : decode (mC 96) 74 = .ok (.iload_n 1, 1) := by rw [mC_96]; decide +kernel
theorem d96_75 : decode (mC 96) 75 = .ok (.invokevirtual 94, 3) := by rw [mC_96]; decide +kernel
theorem d96_78 : decode (mC 96) 78 = .ok (.aload_n 0, 1) := by rw [mC_96]; decide +kernel
theorem d96_79 : decode (mC 96) 79 = .ok (.bipush 34, 2) := by rw [mC_96]; decide +kernel
theorem d96_81 : decode (mC 96) 81 = .ok (.iload_n 2, 1) := by rw [mC_96]; decide +kernel
theorem d96_82 : decode (mC 96) 82 = .ok (.invokevirtual 98, 3) := by rw [mC_96]; decide +kernel
theorem d96_85 : decode (mC 96) 85 = .ok (.iload_n 3, 1) := by rw [mC_96]; decide +kernel
theorem d96_86 : decode (mC 96) 86 = .ok (.ifCond .eq 11, 3) := by rw [mC_96]; decide +kernel
theorem d96_89 : decode (mC 96) 89 = .ok (.aload_n 0, 1) := by rw [mC_96]; decide +kernel
theorem d96_90 : decode (mC 96) 90 = .ok (.bipush 43, 2) := by rw [mC_96]; decide +kernel
theorem d96_92 : decode (mC 96) 92 = .ok (.bipush 89, 2) := by rw [mC_96]; decide +kernel
theorem d96_94 : decode (mC 96) 94 = .ok (.invokevirtual 94, 3) := by rw [mC_96]; decide +kernel
theorem d96_97 : decode (mC 96) 97 = .ok (.aload_n 0, 1) := by rw [mC_96]; decide +kernel
theorem d96_98 : decode (mC 96) 98 = .ok (.iload_n 1, 1) := by rw [mC_96]; decide +kernel
theorem d96_99 : decode (mC 96) 99 = .ok (.iload 4, 2) := by rw [mC_96]; decide +kernel
theorem d96_101 : decode (mC 96) 101 = .ok (.iload 5, 2) := by rw [mC_96]; decide +kernel
theorem d96_103 : decode (mC 96) 103 = .ok (.iload 6, 2) := by rw [mC_96]; decide +kernel
theorem d96_105 : decode (mC 96) 105 = .ok (.iload 7, 2) := by rw [mC_96]; decide +kernel
theorem d96_107 : decode (mC 96) 107 = .ok (.iconst 1, 1) := by rw [mC_96]; decide +kernel
theorem d96_108 : decode (mC 96) 108 = .ok (.invokevirtual 101, 3) := by rw [mC_96]; decide +kernel
theorem d96_111 : decode (mC 96) 111 = .ok (.pop, 1) := by rw [mC_96]; decide +kernel
theorem d96_112 : decode (mC 96) 112 = .ok (.aload_n 0, 1) := by rw [mC_96]; decide +kernel
theorem d96_113 : decode (mC 96) 113 = .ok (.getfield 63, 3) := by rw [mC_96]; decide +kernel
theorem d96_116 : decode (mC 96) 116 = .ok (.ifCond .eq 10, 3) := by rw [mC_96]; decide +kernel
theorem d96_119 : decode (mC 96) 119 = .ok (.aload_n 0, 1) := by rw [mC_96]; decide +kernel
theorem d96_120 : decode (mC 96) 120 = .ok (.getfield 67, 3) := by rw [mC_96]; decide +kernel
theorem d96_123 : decode (mC 96) 123 = .ok (.goto 7, 3) := by rw [mC_96]; decide +kernel
theorem d96_126 : decode (mC 96) 126 = .ok (.aload_n 0, 1) := by rw [mC_96]; decide +kernel
theorem d96_127 : decode (mC 96) 127 = .ok (.getfield 73, 3) := by rw [mC_96]; decide +kernel
theorem d96_130 : decode (mC 96) 130 = .ok (.istore 8, 2) := by rw [mC_96]; decide +kernel
theorem d96_132 : decode (mC 96) 132 = .ok (.iconst 0, 1) := by rw [mC_96]; decide +kernel
theorem d96_133 : decode (mC 96) 133 = .ok (.istore 9, 2) := by rw [mC_96]; decide +kernel
theorem d96_135 : decode (mC 96) 135 = .ok (.iconst 0, 1) := by rw [mC_96]; decide +kernel
theorem d96_136 : decode (mC 96) 136 = .ok (.istore 10, 2) := by rw [mC_96]; decide +kernel
theorem d96_138 : decode (mC 96) 138 = .ok (.iload 10, 2) := by rw [mC_96]; decide +kernel
theorem d96_140 : decode (mC 96) 140 = .ok (.iload 8, 2) := by rw [mC_96]; decide +kernel
theorem d96_142 : decode (mC 96) 142 = .ok (.if_icmp .ge 20, 3) := by rw [mC_96]; decide +kernel
theorem d96_145 : decode (mC 96) 145 = .ok (.iload 9, 2) := by rw [mC_96]; decide +kernel
theorem d96_147 : decode (mC 96) 147 = .ok (.aload_n 0, 1) := by rw [mC_96]; decide +kernel
theorem d96_148 : decode (mC 96) 148 = .ok (.iload 10, 2) := by rw [mC_96]; decide +kernel
theorem d96_150 : decode (mC 96) 150 = .ok (.invokevirtual 105, 3) := by rw [mC_96]; decide +kernel
theorem d96_153 : decode (mC 96) 153 = .ok (.iadd, 1) := by rw [mC_96]; decide +kernel
theorem d96_154 : decode (mC 96) 154 = .ok (.istore 9, 2) := by rw [mC_96]; decide +kernel
theorem d96_156 : decode (mC 96) 156 = .ok (.iinc 10 1, 3) := by rw [mC_96]; decide +kernel
theorem d96_159 : decode (mC 96) 159 = .ok (.goto (-21), 3) := by rw [mC_96]; decide +kernel
theorem d96_162 : decode (mC 96) 162 = .ok (.aload_n 0, 1) := by rw [mC_96]; decide +kernel
theorem d96_163 : decode (mC 96) 163 = .ok (.bipush 10, 2) := by rw [mC_96]; decide +kernel
theorem d96_165 : decode (mC 96) 165 = .ok (.invokevirtual 80, 3) := by rw [mC_96]; decide +kernel
theorem d96_168 : decode (mC 96) 168 = .ok (.aload_n 0, 1) := by rw [mC_96]; decide +kernel
theorem d96_169 : decode (mC 96) 169 = .ok (.bipush 61, 2) := by rw [mC_96]; decide +kernel
theorem d96_171 : decode (mC 96) 171 = .ok (.invokevirtual 76, 3) := by rw [mC_96]; decide +kernel
theorem d96_174 : decode (mC 96) 174 = .ok (.aload_n 0, 1) := by rw [mC_96]; decide +kernel
theorem d96_175 : decode (mC 96) 175 = .ok (.bipush 48, 2) := by rw [mC_96]; decide +kernel
theorem d96_177 : decode (mC 96) 177 = .ok (.iload 9, 2) := by rw [mC_96]; decide +kernel
theorem d96_179 : decode (mC 96) 179 = .ok (.sipush 256, 3) := by rw [mC_96]; decide +kernel
theorem d96_182 : decode (mC 96) 182 = .ok (.irem, 1) := by rw [mC_96]; decide +kernel
theorem d96_183 : decode (mC 96) 183 = .ok (.bipush 100, 2) := by rw [mC_96]; decide +kernel
theorem d96_185 : decode (mC 96) 185 = .ok (.idiv, 1) := by rw [mC_96]; decide +kernel
theorem d96_186 : decode (mC 96) 186 = .ok (.iadd, 1) := by rw [mC_96]; decide +kernel
theorem d96_187 : decode (mC 96) 187 = .ok (.invokevirtual 76, 3) := by rw [mC_96]; decide +kernel
theorem d96_190 : decode (mC 96) 190 = .ok (.aload_n 0, 1) := by rw [mC_96]; decide +kernel
theorem d96_191 : decode (mC 96) 191 = .ok (.bipush 48, 2) := by rw [mC_96]; decide +kernel
theorem d96_193 : decode (mC 96) 193 = .ok (.iload 9, 2) := by rw [mC_96]; decide +kernel
theorem d96_195 : decode (mC 96) 195 = .ok (.sipush 256, 3) := by rw [mC_96]; decide +kernel
theorem d96_198 : decode (mC 96) 198 = .ok (.irem, 1) := by rw [mC_96]; decide +kernel
theorem d96_199 : decode (mC 96) 199 = .ok (.bipush 10, 2) := by rw [mC_96]; decide +kernel
theorem d96_201 : decode (mC 96) 201 = .ok (.idiv, 1) := by rw [mC_96]; decide +kernel
theorem d96_202 : decode (mC 96) 202 = .ok (.bipush 10, 2) := by rw [mC_96]; decide +kernel
theorem d96_204 : decode (mC 96) 204 = .ok (.irem, 1) := by rw [mC_96]; decide +kernel
theorem d96_205 : decode (mC 96) 205 = .ok (.iadd, 1) := by rw [mC_96]; decide +kernel
theorem d96_206 : decode (mC 96) 206 = .ok (.invokevirtual 76, 3) := by rw [mC_96]; decide +kernel
theorem d96_209 : decode (mC 96) 209 = .ok (.aload_n 0, 1) := by rw [mC_96]; decide +kernel
theorem d96_210 : decode (mC 96) 210 = .ok (.bipush 48, 2) := by rw [mC_96]; decide +kernel
theorem d96_212 : decode (mC 96) 212 = .ok (.iload 9, 2) := by rw [mC_96]; decide +kernel
theorem d96_214 : decode (mC 96) 214 = .ok (.sipush 256, 3) := by rw [mC_96]; decide +kernel
theorem d96_217 : decode (mC 96) 217 = .ok (.irem, 1) := by rw [mC_96]; decide +kernel
theorem d96_218 : decode (mC 96) 218 = .ok (.bipush 10, 2) := by rw [mC_96]; decide +kernel
theorem d96_220 : decode (mC 96) 220 = .ok (.irem, 1) := by rw [mC_96]; decide +kernel
theorem d96_221 : decode (mC 96) 221 = .ok (.iadd, 1) := by rw [mC_96]; decide +kernel
theorem d96_222 : decode (mC 96) 222 = .ok (.invokevirtual 76, 3) := by rw [mC_96]; decide +kernel
theorem d96_225 : decode (mC 96) 225 = .ok (.aload_n 0, 1) := by rw [mC_96]; decide +kernel
theorem d96_226 : decode (mC 96) 226 = .ok (.iconst 1, 1) := by rw [mC_96]; decide +kernel
theorem d96_227 : decode (mC 96) 227 = .ok (.invokevirtual 76, 3) := by rw [mC_96]; decide +kernel
theorem d96_230 : decode (mC 96) 230 = .ok (.return_, 1) := by rw [mC_96]; decide +kernel
theorem s96_0 {S : Nat × (Nat → Int32)} {L : List (Option Value)} {st : List Value} {n : Nat} {Q : xQ} {μ : xM} {a : Nat} (hl : L[0]? = some (some (.ref a))) (h : x_V S 96 1 L (.ref a :: st) μ n Q) : x_V S 96 0 L (st) μ n Q := x_aload_n d96_0 hl h
theorem s96_0N {S : Nat × (Nat → Int32)} {L : List (Option Value)} {st : List Value} {n : Nat} {Q : xQ} {μ : xM} (hl : L[0]? = some (some .null)) (h : x_V S 96 1 L (.null :: st) μ n Q) : x_V S 96 0 L st μ n Q := x_aload_nN d96_0 hl h
theorem s96_1 {S : Nat × (Nat → Int32)} {L : List (Option Value)} {st : List Value} {n : Nat} {Q : xQ} {μ : xM}  (h : x_V S 96 2 L (.int (I 0) :: st) μ n Q) : x_V S 96 1 L (st) μ n Q := x_iconst (by decide +kernel) d96_1 h
theorem s96_2 {S : Nat × (Nat → Int32)} {L : List (Option Value)} {st : List Value} {n : Nat} {Q : xQ} {g : Nat → Nat → Int} {a : Nat} {x : Int} (hs : x_sh a = (9, 39)) (hp : x_pt a 18 = none) (ha : a ≠ x_out) (h : x_V S 96 5 L (st) (x_vm (x_uf g a 18 x)) n Q) : x_V S 96 2 L (.int (I x) :: .ref a :: st) (x_vm g) n Q := v_put (i := 18) cf9 d96_2 (by decide) rfl w713 hs rfl hp ha h
theorem s96_5 {S : Nat × (Nat → Int32)} {L : List (Option Value)} {st : List Value} {n : Nat} {Q : xQ} {μ : xM} {a : Nat} (hl : L[0]? = some (some (.ref a))) (h : x_V S 96 6 L (.ref a :: st) μ n Q) : x_V S 96 5 L (st) μ n Q := x_aload_n d96_5 hl h
theorem s96_5N {S : Nat × (Nat → Int32)} {L : List (Option Value)} {st : List Value} {n : Nat} {Q : xQ} {μ : xM} (hl : L[0]? = some (some .null)) (h : x_V S 96 6 L (.null :: st) μ n Q) : x_V S 96 5 L st μ n Q := x_aload_nN d96_5 hl h
theorem s96_6 {S : Nat × (Nat → Int32)} {L : List (Option Value)} {st : List Value} {n : Nat} {Q : xQ} {μ : xM} {a : Nat} (hl : L[0]? = some (some (.ref a))) (h : x_V S 96 7 L (.ref a :: st) μ n Q) : x_V S 96 6 L (st) μ n Q := x_aload_n d96_6 hl h
theorem s96_6N {S : Nat × (Nat → Int32)} {L : List (Option Value)} {st : List Value} {n : Nat} {Q : xQ} {μ : xM} (hl : L[0]? = some (some .null)) (h : x_V S 96 7 L (.null :: st) μ n Q) : x_V S 96 6 L st μ n Q := x_aload_nN d96_6 hl h
theorem s96_7 {S : Nat × (Nat → Int32)} {L : List (Option Value)} {st : List Value} {n : Nat} {Q : xQ} {g : Nat → Nat → Int} {a : Nat} (hs : x_sh a = (9, 39)) (hp : x_pt a 38 = none) (ha : a ≠ x_out) (h : x_V S 96 10 L (.int (I (g a 38)) :: st) (x_vm g) n Q) : x_V S 96 7 L (.ref a :: st) (x_vm g) n Q := v_get (i := 38) cf9 d96_7 (by decide) w733 hs hp ha h
theorem s96_10 {S : Nat × (Nat → Int32)} {L : List (Option Value)} {st : List Value} {n : Nat} {Q : xQ} {μ : xM} {x : Int} (hx : ib x) (kt : x = 0 → x_V S 96 17 L (st) μ n Q) (kf : x ≠ 0 → x_V S 96 13 L (st) μ n Q) : x_V S 96 10 L (.int (I x) :: st) μ n Q := v_if_eq d96_10 (by decide) hx kt kf
theorem s96_13 {S : Nat × (Nat → Int32)} {L : List (Option Value)} {st : List Value} {n : Nat} {Q : xQ} {μ : xM}  (h : x_V S 96 14 L (.int (I 0) :: st) μ n Q) : x_V S 96 13 L (st) μ n Q := x_iconst (by decide +kernel) d96_13 h
theorem s96_14 {S : Nat × (Nat → Int32)} {L : List (Option Value)} {st : List Value} {n : Nat} {Q : xQ} {μ : xM}  (h : x_V S 96 21 L (st) μ n Q) : x_V S 96 14 L (st) μ n Q := x_goto (tgt := 21) (by decide) d96_14 h
theorem s96_17 {S : Nat × (Nat → Int32)} {L : List (Option Value)} {st : List Value} {n : Nat} {Q : xQ} {μ : xM} {a : Nat} (hl : L[0]? = some (some (.ref a))) (h : x_V S 96 18 L (.ref a :: st) μ n Q) : x_V S 96 17 L (st) μ n Q := x_aload_n d96_17 hl h
theorem s96_17N {S : Nat × (Nat → Int32)} {L : List (Option Value)} {st : List Value} {n : Nat} {Q : xQ} {μ : xM} (hl : L[0]? = some (some .null)) (h : x_V S 96 18 L (.null :: st) μ n Q) : x_V S 96 17 L st μ n Q := x_aload_nN d96_17 hl h
theorem s96_18 {S : Nat × (Nat → Int32)} {L : List (Option Value)} {st : List Value} {n : Nat} {Q : xQ} {g : Nat → Nat → Int} {a : Nat} (hs : x_sh a = (9, 39)) (hp : x_pt a 2 = none) (ha : a ≠ x_out) (h : x_V S 96 21 L (.int (I (g a 2)) :: st) (x_vm g) n Q) : x_V S 96 18 L (.ref a :: st) (x_vm g) n Q := v_get (i := 2) cf9 d96_18 (by decide) w697 hs hp ha h
theorem s96_21 {S : Nat × (Nat → Int32)} {L : List (Option Value)} {st : List Value} {n : Nat} {Q : xQ} {g : Nat → Nat → Int} {a : Nat} {x : Int} (hs : x_sh a = (9, 39)) (hp : x_pt a 2 = none) (ha : a ≠ x_out) (h : x_V S 96 24 L (st) (x_vm (x_uf g a 2 x)) n Q) : x_V S 96 21 L (.int (I x) :: .ref a :: st) (x_vm g) n Q := v_put (i := 2) cf9 d96_21 (by decide) rfl w697 hs rfl hp ha h
theorem s96_24 {S : Nat × (Nat → Int32)} {L : List (Option Value)} {st : List Value} {n : Nat} {Q : xQ} {μ : xM} {a : Nat} (hl : L[0]? = some (some (.ref a))) (h : x_V S 96 25 L (.ref a :: st) μ n Q) : x_V S 96 24 L (st) μ n Q := x_aload_n d96_24 hl h
theorem s96_24N {S : Nat × (Nat → Int32)} {L : List (Option Value)} {st : List Value} {n : Nat} {Q : xQ} {μ : xM} (hl : L[0]? = some (some .null)) (h : x_V S 96 25 L (.null :: st) μ n Q) : x_V S 96 24 L st μ n Q := x_aload_nN d96_24 hl h
theorem s96_25 {S : Nat × (Nat → Int32)} {L : List (Option Value)} {st : List Value} {n : Nat} {Q : xQ} {μ : xM}  (h : x_V S 96 27 L (.int (I 8) :: st) μ n Q) : x_V S 96 25 L (st) μ n Q := x_bipush (by decide +kernel) d96_25 h
theorem s96_27 {S : Nat × (Nat → Int32)} {L : List (Option Value)} {st : List Value} {n : Nat} {Q : xQ} {μ : xM}  (h : x_V S 96 29 L (.int (I 70) :: st) μ n Q) : x_V S 96 27 L (st) μ n Q := x_bipush (by decide +kernel) d96_27 h
theorem s96_29 {S : Nat × (Nat → Int32)} {L : List (Option Value)} {st : List Value} {n : Nat} {Q : xQ} {μ : xM} {x0 : Int32} {x1 : Int32} {a : Nat} (hs : x_sh a = (9, 39)) (hst : st.length ≤ 4) (h : x_V S 90 0 [some (.ref a), some (.int x0), some (.int x1)] [] μ n (x_bk S 96 29 L st Q)) : x_V S 96 29 L (.int x1 :: .int x0 :: .ref a :: st) μ n Q := x_callV (k' := 90) (as := [.int x0, .int x1]) (na := 2) d96_29 ⟨w840, by decide +kernel, by decide, by decide, by decide, by decide, by decide⟩ cf9 w837 w839 wp26 (by decide +kernel) rfl hs (fun v hv => by
    simp only [List.mem_cons, List.not_mem_nil, or_false] at hv
    rcases hv with rfl | rfl <;> first | rfl | assumption) hst h
theorem s96_32 {S : Nat × (Nat → Int32)} {L : List (Option Value)} {st : List Value} {n : Nat} {Q : xQ} {μ : xM} {a : Nat} (hl : L[0]? = some (some (.ref a))) (h : x_V S 96 33 L (.ref a :: st) μ n Q) : x_V S 96 32 L (st) μ n Q := x_aload_n d96_32 hl h
theorem s96_32N {S : Nat × (Nat → Int32)} {L : List (Option Value)} {st : List Value} {n : Nat} {Q : xQ} {μ : xM} (hl : L[0]? = some (some .null)) (h : x_V S 96 33 L (.null :: st) μ n Q) : x_V S 96 32 L st μ n Q := x_aload_nN d96_32 hl h
theorem s96_33 {S : Nat × (Nat → Int32)} {L : List (Option Value)} {st : List Value} {n : Nat} {Q : xQ} {μ : xM}  (h : x_V S 96 35 L (.int (I 9) :: st) μ n Q) : x_V S 96 33 L (st) μ n Q := x_bipush (by decide +kernel) d96_33 h
theorem s96_35 {S : Nat × (Nat → Int32)} {L : List (Option Value)} {st : List Value} {n : Nat} {Q : xQ} {μ : xM}  (h : x_V S 96 36 L (.int (I 5) :: st) μ n Q) : x_V S 96 35 L (st) μ n Q := x_iconst (by decide +kernel) d96_35 h
theorem s96_36 {S : Nat × (Nat → Int32)} {L : List (Option Value)} {st : List Value} {n : Nat} {Q : xQ} {μ : xM}  (h : x_V S 96 38 L (.int (I 34) :: st) μ n Q) : x_V S 96 36 L (st) μ n Q := x_bipush (by decide +kernel) d96_36 h
theorem s96_38 {S : Nat × (Nat → Int32)} {L : List (Option Value)} {st : List Value} {n : Nat} {Q : xQ} {μ : xM} {x : Int32} (hl : L[2]? = some (some (.int x))) (h : x_V S 96 39 L (.int x :: st) μ n Q) : x_V S 96 38 L (st) μ n Q := x_iload_n d96_38 hl h
theorem s96_39 {S : Nat × (Nat → Int32)} {L : List (Option Value)} {st : List Value} {n : Nat} {Q : xQ} {μ : xM} {x0 : Int32} {x1 : Int32} (hst : st.length ≤ 4) (h : x_V S 93 0 [some (.int x0), some (.int x1)] [] μ n (x_bk S 96 39 L st Q)) : x_V S 96 39 L (.int x1 :: .int x0 :: st) μ n Q := x_callS (k' := 93) (as := [.int x0, .int x1]) (na := 2) d96_39 ⟨w851, by decide +kernel, by decide, by decide, by decide, by decide, by decide⟩ w849 w850 w10 (by decide +kernel) rfl (fun v hv => by
    simp only [List.mem_cons, List.not_mem_nil, or_false] at hv
    rcases hv with rfl | rfl <;> first | rfl | assumption) hst h
theorem s96_42 {S : Nat × (Nat → Int32)} {L : List (Option Value)} {st : List Value} {n : Nat} {Q : xQ} {μ : xM} {x y : Int} (h : x_V S 96 43 L (.int (I (x + y)) :: st) μ n Q) : x_V S 96 42 L (.int (I y) :: .int (I x) :: st) μ n Q := v_iadd d96_42 h
theorem s96_43 {S : Nat × (Nat → Int32)} {L : List (Option Value)} {st : List Value} {n : Nat} {Q : xQ} {μ : xM} {x : Int32} (hl : L[3]? = some (some (.int x))) (h : x_V S 96 44 L (.int x :: st) μ n Q) : x_V S 96 43 L (st) μ n Q := x_iload_n d96_43 hl h
theorem s96_44 {S : Nat × (Nat → Int32)} {L : List (Option Value)} {st : List Value} {n : Nat} {Q : xQ} {μ : xM} {x : Int} (hx : ib x) (kt : x = 0 → x_V S 96 51 L (st) μ n Q) (kf : x ≠ 0 → x_V S 96 47 L (st) μ n Q) : x_V S 96 44 L (.int (I x) :: st) μ n Q := v_if_eq d96_44 (by decide) hx kt kf
theorem s96_47 {S : Nat × (Nat → Int32)} {L : List (Option Value)} {st : List Value} {n : Nat} {Q : xQ} {μ : xM}  (h : x_V S 96 48 L (.int (I 5) :: st) μ n Q) : x_V S 96 47 L (st) μ n Q := x_iconst (by decide +kernel) d96_47 h
theorem s96_48 {S : Nat × (Nat → Int32)} {L : List (Option Value)} {st : List Value} {n : Nat} {Q : xQ} {μ : xM}  (h : x_V S 96 52 L (st) μ n Q) : x_V S 96 48 L (st) μ n Q := x_goto (tgt := 52) (by decide) d96_48 h
theorem s96_51 {S : Nat × (Nat → Int32)} {L : List (Option Value)} {st : List Value} {n : Nat} {Q : xQ} {μ : xM}  (h : x_V S 96 52 L (.int (I 0) :: st) μ n Q) : x_V S 96 51 L (st) μ n Q := x_iconst (by decide +kernel) d96_51 h
theorem s96_52 {S : Nat × (Nat → Int32)} {L : List (Option Value)} {st : List Value} {n : Nat} {Q : xQ} {μ : xM} {x y : Int} (h : x_V S 96 53 L (.int (I (x + y)) :: st) μ n Q) : x_V S 96 52 L (.int (I y) :: .int (I x) :: st) μ n Q := v_iadd d96_52 h
theorem s96_53 {S : Nat × (Nat → Int32)} {L : List (Option Value)} {st : List Value} {n : Nat} {Q : xQ} {μ : xM} {a : Nat} (hl : L[0]? = some (some (.ref a))) (h : x_V S 96 54 L (.ref a :: st) μ n Q) : x_V S 96 53 L (st) μ n Q := x_aload_n d96_53 hl h
theorem s96_53N {S : Nat × (Nat → Int32)} {L : List (Option Value)} {st : List Value} {n : Nat} {Q : xQ} {μ : xM} (hl : L[0]? = some (some .null)) (h : x_V S 96 54 L (.null :: st) μ n Q) : x_V S 96 53 L st μ n Q := x_aload_nN d96_53 hl h
theorem s96_54 {S : Nat × (Nat → Int32)} {L : List (Option Value)} {st : List Value} {n : Nat} {Q : xQ} {μ : xM} {x : Int32} (hl : L[1]? = some (some (.int x))) (h : x_V S 96 55 L (.int x :: st) μ n Q) : x_V S 96 54 L (st) μ n Q := x_iload_n d96_54 hl h
theorem s96_55 {S : Nat × (Nat → Int32)} {L : List (Option Value)} {st : List Value} {n : Nat} {Q : xQ} {μ : xM} {x : Int32} (hl : L[4]? = some (some (.int x))) (h : x_V S 96 57 L (.int x :: st) μ n Q) : x_V S 96 55 L (st) μ n Q := x_iload d96_55 hl h
theorem s96_57 {S : Nat × (Nat → Int32)} {L : List (Option Value)} {st : List Value} {n : Nat} {Q : xQ} {μ : xM} {x : Int32} (hl : L[5]? = some (some (.int x))) (h : x_V S 96 59 L (.int x :: st) μ n Q) : x_V S 96 57 L (st) μ n Q := x_iload d96_57 hl h
theorem s96_59 {S : Nat × (Nat → Int32)} {L : List (Option Value)} {st : List Value} {n : Nat} {Q : xQ} {μ : xM} {x : Int32} (hl : L[6]? = some (some (.int x))) (h : x_V S 96 61 L (.int x :: st) μ n Q) : x_V S 96 59 L (st) μ n Q := x_iload d96_59 hl h
theorem s96_61 {S : Nat × (Nat → Int32)} {L : List (Option Value)} {st : List Value} {n : Nat} {Q : xQ} {μ : xM} {x : Int32} (hl : L[7]? = some (some (.int x))) (h : x_V S 96 63 L (.int x :: st) μ n Q) : x_V S 96 61 L (st) μ n Q := x_iload d96_61 hl h
theorem s96_63 {S : Nat × (Nat → Int32)} {L : List (Option Value)} {st : List Value} {n : Nat} {Q : xQ} {μ : xM}  (h : x_V S 96 64 L (.int (I 0) :: st) μ n Q) : x_V S 96 63 L (st) μ n Q := x_iconst (by decide +kernel) d96_63 h
theorem s96_64 {S : Nat × (Nat → Int32)} {L : List (Option Value)} {st : List Value} {n : Nat} {Q : xQ} {μ : xM} {x0 : Int32} {x1 : Int32} {x2 : Int32} {x3 : Int32} {x4 : Int32} {x5 : Int32} {a : Nat} (hs : x_sh a = (9, 39)) (hst : st.length ≤ 4) (h : x_V S 94 0 [some (.ref a), some (.int x0), some (.int x1), some (.int x2), some (.int x3), some (.int x4), some (.int x5), none, none, none, none, none] [] μ n (x_bk S 96 64 L st Q)) : x_V S 96 64 L (.int x5 :: .int x4 :: .int x3 :: .int x2 :: .int x1 :: .int x0 :: .ref a :: st) μ n Q := x_callV (k' := 94) (as := [.int x0, .int x1, .int x2, .int x3, .int x4, .int x5]) (na := 6) d96_64 ⟨w858, by decide +kernel, by decide, by decide, by decide, by decide, by decide⟩ cf9 w855 w857 wp29 (by decide +kernel) rfl hs (fun v hv => by
    simp only [List.mem_cons, List.not_mem_nil, or_false] at hv
    rcases hv with rfl | rfl | rfl | rfl | rfl | rfl <;> first | rfl | assumption) hst h
theorem s96_67 {S : Nat × (Nat → Int32)} {L : List (Option Value)} {st : List Value} {n : Nat} {Q : xQ} {μ : xM} {x y : Int} (h : x_V S 96 68 L (.int (I (x + y)) :: st) μ n Q) : x_V S 96 67 L (.int (I y) :: .int (I x) :: st) μ n Q := v_iadd d96_67 h
theorem s96_68 {S : Nat × (Nat → Int32)} {L : List (Option Value)} {st : List Value} {n : Nat} {Q : xQ} {μ : xM} {x0 : Int32} {x1 : Int32} {a : Nat} (hs : x_sh a = (9, 39)) (hst : st.length ≤ 4) (h : x_V S 89 0 [some (.ref a), some (.int x0), some (.int x1)] [] μ n (x_bk S 96 68 L st Q)) : x_V S 96 68 L (.int x1 :: .int x0 :: .ref a :: st) μ n Q := x_callV (k' := 89) (as := [.int x0, .int x1]) (na := 2) d96_68 ⟨w865, by decide +kernel, by decide, by decide, by decide, by decide, by decide⟩ cf9 w862 w864 wp30 (by decide +kernel) rfl hs (fun v hv => by
    simp only [List.mem_cons, List.not_mem_nil, or_false] at hv
    rcases hv with rfl | rfl <;> first | rfl | assumption) hst h
theorem s96_71 {S : Nat × (Nat → Int32)} {L : List (Option Value)} {st : List Value} {n : Nat} {Q : xQ} {μ : xM} {a : Nat} (hl : L[0]? = some (some (.ref a))) (h : x_V S 96 72 L (.ref a :: st) μ n Q) : x_V S 96 71 L (st) μ n Q := x_aload_n d96_71 hl h
theorem s96_71N {S : Nat × (Nat → Int32)} {L : List (Option Value)} {st : List Value} {n : Nat} {Q : xQ} {μ : xM} (hl : L[0]? = some (some .null)) (h : x_V S 96 72 L (.null :: st) μ n Q) : x_V S 96 71 L st μ n Q := x_aload_nN d96_71 hl h
theorem s96_72 {S : Nat × (Nat → Int32)} {L : List (Option Value)} {st : List Value} {n : Nat} {Q : xQ} {μ : xM}  (h : x_V S 96 74 L (.int (I 35) :: st) μ n Q) : x_V S 96 72 L (st) μ n Q := x_bipush (by decide +kernel) d96_72 h
theorem s96_74 {S : Nat × (Nat → Int32)} {L : List (Option Value)} {st : List Value} {n : Nat} {Q : xQ} {μ : xM} {x : Int32} (hl : L[1]? = some (some (.int x))) (h : x_V S 96 75 L (.int x :: st) μ n Q) : x_V S 96 74 L (st) μ n Q := x_iload_n d96_74 hl h
theorem s96_75 {S : Nat × (Nat → Int32)} {L : List (Option Value)} {st : List Value} {n : Nat} {Q : xQ} {μ : xM} {x0 : Int32} {x1 : Int32} {a : Nat} (hs : x_sh a = (9, 39)) (hst : st.length ≤ 4) (h : x_V S 90 0 [some (.ref a), some (.int x0), some (.int x1)] [] μ n (x_bk S 96 75 L st Q)) : x_V S 96 75 L (.int x1 :: .int x0 :: .ref a :: st) μ n Q := x_callV (k' := 90) (as := [.int x0, .int x1]) (na := 2) d96_75 ⟨w840, by decide +kernel, by decide, by decide, by decide, by decide, by decide⟩ cf9 w837 w839 wp26 (by decide +kernel) rfl hs (fun v hv => by
    simp only [List.mem_cons, List.not_mem_nil, or_false] at hv
    rcases hv with rfl | rfl <;> first | rfl | assumption) hst h
theorem s96_78 {S : Nat × (Nat → Int32)} {L : List (Option Value)} {st : List Value} {n : Nat} {Q : xQ} {μ : xM} {a : Nat} (hl : L[0]? = some (some (.ref a))) (h : x_V S 96 79 L (.ref a :: st) μ n Q) : x_V S 96 78 L (st) μ n Q := x_aload_n d96_78 hl h
theorem s96_78N {S : Nat × (Nat → Int32)} {L : List (Option Value)} {st : List Value} {n : Nat} {Q : xQ} {μ : xM} (hl : L[0]? = some (some .null)) (h : x_V S 96 79 L (.null :: st) μ n Q) : x_V S 96 78 L st μ n Q := x_aload_nN d96_78 hl h
theorem s96_79 {S : Nat × (Nat → Int32)} {L : List (Option Value)} {st : List Value} {n : Nat} {Q : xQ} {μ : xM}  (h : x_V S 96 81 L (.int (I 34) :: st) μ n Q) : x_V S 96 79 L (st) μ n Q := x_bipush (by decide +kernel) d96_79 h
theorem s96_81 {S : Nat × (Nat → Int32)} {L : List (Option Value)} {st : List Value} {n : Nat} {Q : xQ} {μ : xM} {x : Int32} (hl : L[2]? = some (some (.int x))) (h : x_V S 96 82 L (.int x :: st) μ n Q) : x_V S 96 81 L (st) μ n Q := x_iload_n d96_81 hl h
theorem s96_82 {S : Nat × (Nat → Int32)} {L : List (Option Value)} {st : List Value} {n : Nat} {Q : xQ} {μ : xM} {x0 : Int32} {x1 : Int32} {a : Nat} (hs : x_sh a = (9, 39)) (hst : st.length ≤ 4) (h : x_V S 89 0 [some (.ref a), some (.int x0), some (.int x1)] [] μ n (x_bk S 96 82 L st Q)) : x_V S 96 82 L (.int x1 :: .int x0 :: .ref a :: st) μ n Q := x_callV (k' := 89) (as := [.int x0, .int x1]) (na := 2) d96_82 ⟨w865, by decide +kernel, by decide, by decide, by decide, by decide, by decide⟩ cf9 w862 w864 wp30 (by decide +kernel) rfl hs (fun v hv => by
    simp only [List.mem_cons, List.not_mem_nil, or_false] at hv
    rcases hv with rfl | rfl <;> first | rfl | assumption) hst h
theorem s96_85 {S : Nat × (Nat → Int32)} {L : List (Option Value)} {st : List Value} {n : Nat} {Q : xQ} {μ : xM} {x : Int32} (hl : L[3]? = some (some (.int x))) (h : x_V S 96 86 L (.int x :: st) μ n Q) : x_V S 96 85 L (st) μ n Q := x_iload_n d96_85 hl h
theorem s96_86 {S : Nat × (Nat → Int32)} {L : List (Option Value)} {st : List Value} {n : Nat} {Q : xQ} {μ : xM} {x : Int} (hx : ib x) (kt : x = 0 → x_V S 96 97 L (st) μ n Q) (kf : x ≠ 0 → x_V S 96 89 L (st) μ n Q) : x_V S 96 86 L (.int (I x) :: st) μ n Q := v_if_eq d96_86 (by decide) hx kt kf
theorem s96_89 {S : Nat × (Nat → Int32)} {L : List (Option Value)} {st : List Value} {n : Nat} {Q : xQ} {μ : xM} {a : Nat} (hl : L[0]? = some (some (.ref a))) (h : x_V S 96 90 L (.ref a :: st) μ n Q) : x_V S 96 89 L (st) μ n Q := x_aload_n d96_89 hl h
theorem s96_89N {S : Nat × (Nat → Int32)} {L : List (Option Value)} {st : List Value} {n : Nat} {Q : xQ} {μ : xM} (hl : L[0]? = some (some .null)) (h : x_V S 96 90 L (.null :: st) μ n Q) : x_V S 96 89 L st μ n Q := x_aload_nN d96_89 hl h
theorem s96_90 {S : Nat × (Nat → Int32)} {L : List (Option Value)} {st : List Value} {n : Nat} {Q : xQ} {μ : xM}  (h : x_V S 96 92 L (.int (I 43) :: st) μ n Q) : x_V S 96 90 L (st) μ n Q := x_bipush (by decide +kernel) d96_90 h
theorem s96_92 {S : Nat × (Nat → Int32)} {L : List (Option Value)} {st : List Value} {n : Nat} {Q : xQ} {μ : xM}  (h : x_V S 96 94 L (.int (I 89) :: st) μ n Q) : x_V S 96 92 L (st) μ n Q := x_bipush (by decide +kernel) d96_92 h
theorem s96_94 {S : Nat × (Nat → Int32)} {L : List (Option Value)} {st : List Value} {n : Nat} {Q : xQ} {μ : xM} {x0 : Int32} {x1 : Int32} {a : Nat} (hs : x_sh a = (9, 39)) (hst : st.length ≤ 4) (h : x_V S 90 0 [some (.ref a), some (.int x0), some (.int x1)] [] μ n (x_bk S 96 94 L st Q)) : x_V S 96 94 L (.int x1 :: .int x0 :: .ref a :: st) μ n Q := x_callV (k' := 90) (as := [.int x0, .int x1]) (na := 2) d96_94 ⟨w840, by decide +kernel, by decide, by decide, by decide, by decide, by decide⟩ cf9 w837 w839 wp26 (by decide +kernel) rfl hs (fun v hv => by
    simp only [List.mem_cons, List.not_mem_nil, or_false] at hv
    rcases hv with rfl | rfl <;> first | rfl | assumption) hst h
theorem s96_97 {S : Nat × (Nat → Int32)} {L : List (Option Value)} {st : List Value} {n : Nat} {Q : xQ} {μ : xM} {a : Nat} (hl : L[0]? = some (some (.ref a))) (h : x_V S 96 98 L (.ref a :: st) μ n Q) : x_V S 96 97 L (st) μ n Q := x_aload_n d96_97 hl h
theorem s96_97N {S : Nat × (Nat → Int32)} {L : List (Option Value)} {st : List Value} {n : Nat} {Q : xQ} {μ : xM} (hl : L[0]? = some (some .null)) (h : x_V S 96 98 L (.null :: st) μ n Q) : x_V S 96 97 L st μ n Q := x_aload_nN d96_97 hl h
theorem s96_98 {S : Nat × (Nat → Int32)} {L : List (Option Value)} {st : List Value} {n : Nat} {Q : xQ} {μ : xM} {x : Int32} (hl : L[1]? = some (some (.int x))) (h : x_V S 96 99 L (.int x :: st) μ n Q) : x_V S 96 98 L (st) μ n Q := x_iload_n d96_98 hl h
theorem s96_99 {S : Nat × (Nat → Int32)} {L : List (Option Value)} {st : List Value} {n : Nat} {Q : xQ} {μ : xM} {x : Int32} (hl : L[4]? = some (some (.int x))) (h : x_V S 96 101 L (.int x :: st) μ n Q) : x_V S 96 99 L (st) μ n Q := x_iload d96_99 hl h
theorem s96_101 {S : Nat × (Nat → Int32)} {L : List (Option Value)} {st : List Value} {n : Nat} {Q : xQ} {μ : xM} {x : Int32} (hl : L[5]? = some (some (.int x))) (h : x_V S 96 103 L (.int x :: st) μ n Q) : x_V S 96 101 L (st) μ n Q := x_iload d96_101 hl h
theorem s96_103 {S : Nat × (Nat → Int32)} {L : List (Option Value)} {st : List Value} {n : Nat} {Q : xQ} {μ : xM} {x : Int32} (hl : L[6]? = some (some (.int x))) (h : x_V S 96 105 L (.int x :: st) μ n Q) : x_V S 96 103 L (st) μ n Q := x_iload d96_103 hl h
theorem s96_105 {S : Nat × (Nat → Int32)} {L : List (Option Value)} {st : List Value} {n : Nat} {Q : xQ} {μ : xM} {x : Int32} (hl : L[7]? = some (some (.int x))) (h : x_V S 96 107 L (.int x :: st) μ n Q) : x_V S 96 105 L (st) μ n Q := x_iload d96_105 hl h
theorem s96_107 {S : Nat × (Nat → Int32)} {L : List (Option Value)} {st : List Value} {n : Nat} {Q : xQ} {μ : xM}  (h : x_V S 96 108 L (.int (I 1) :: st) μ n Q) : x_V S 96 107 L (st) μ n Q := x_iconst (by decide +kernel) d96_107 h
theorem s96_108 {S : Nat × (Nat → Int32)} {L : List (Option Value)} {st : List Value} {n : Nat} {Q : xQ} {μ : xM} {x0 : Int32} {x1 : Int32} {x2 : Int32} {x3 : Int32} {x4 : Int32} {x5 : Int32} {a : Nat} (hs : x_sh a = (9, 39)) (hst : st.length ≤ 4) (h : x_V S 94 0 [some (.ref a), some (.int x0), some (.int x1), some (.int x2), some (.int x3), some (.int x4), some (.int x5), none, none, none, none, none] [] μ n (x_bk S 96 108 L st Q)) : x_V S 96 108 L (.int x5 :: .int x4 :: .int x3 :: .int x2 :: .int x1 :: .int x0 :: .ref a :: st) μ n Q := x_callV (k' := 94) (as := [.int x0, .int x1, .int x2, .int x3, .int x4, .int x5]) (na := 6) d96_108 ⟨w858, by decide +kernel, by decide, by decide, by decide, by decide, by decide⟩ cf9 w855 w857 wp29 (by decide +kernel) rfl hs (fun v hv => by
    simp only [List.mem_cons, List.not_mem_nil, or_false] at hv
    rcases hv with rfl | rfl | rfl | rfl | rfl | rfl <;> first | rfl | assumption) hst h
theorem s96_111 {S : Nat × (Nat → Int32)} {L : List (Option Value)} {st : List Value} {n : Nat} {Q : xQ} {μ : xM} {v : Value} (hc : v.category = 1) (h : x_V S 96 112 L (st) μ n Q) : x_V S 96 111 L (v :: st) μ n Q := x_pop hc d96_111 h
theorem s96_112 {S : Nat × (Nat → Int32)} {L : List (Option Value)} {st : List Value} {n : Nat} {Q : xQ} {μ : xM} {a : Nat} (hl : L[0]? = some (some (.ref a))) (h : x_V S 96 113 L (.ref a :: st) μ n Q) : x_V S 96 112 L (st) μ n Q := x_aload_n d96_112 hl h
theorem s96_112N {S : Nat × (Nat → Int32)} {L : List (Option Value)} {st : List Value} {n : Nat} {Q : xQ} {μ : xM} (hl : L[0]? = some (some .null)) (h : x_V S 96 113 L (.null :: st) μ n Q) : x_V S 96 112 L st μ n Q := x_aload_nN d96_112 hl h
theorem s96_113 {S : Nat × (Nat → Int32)} {L : List (Option Value)} {st : List Value} {n : Nat} {Q : xQ} {g : Nat → Nat → Int} {a : Nat} (hs : x_sh a = (9, 39)) (hp : x_pt a 38 = none) (ha : a ≠ x_out) (h : x_V S 96 116 L (.int (I (g a 38)) :: st) (x_vm g) n Q) : x_V S 96 113 L (.ref a :: st) (x_vm g) n Q := v_get (i := 38) cf9 d96_113 (by decide) w733 hs hp ha h
theorem s96_116 {S : Nat × (Nat → Int32)} {L : List (Option Value)} {st : List Value} {n : Nat} {Q : xQ} {μ : xM} {x : Int} (hx : ib x) (kt : x = 0 → x_V S 96 126 L (st) μ n Q) (kf : x ≠ 0 → x_V S 96 119 L (st) μ n Q) : x_V S 96 116 L (.int (I x) :: st) μ n Q := v_if_eq d96_116 (by decide) hx kt kf
theorem s96_119 {S : Nat × (Nat → Int32)} {L : List (Option Value)} {st : List Value} {n : Nat} {Q : xQ} {μ : xM} {a : Nat} (hl : L[0]? = some (some (.ref a))) (h : x_V S 96 120 L (.ref a :: st) μ n Q) : x_V S 96 119 L (st) μ n Q := x_aload_n d96_119 hl h
theorem s96_119N {S : Nat × (Nat → Int32)} {L : List (Option Value)} {st : List Value} {n : Nat} {Q : xQ} {μ : xM} (hl : L[0]? = some (some .null)) (h : x_V S 96 120 L (.null :: st) μ n Q) : x_V S 96 119 L st μ n Q := x_aload_nN d96_119 hl h
theorem s96_120 {S : Nat × (Nat → Int32)} {L : List (Option Value)} {st : List Value} {n : Nat} {Q : xQ} {g : Nat → Nat → Int} {a : Nat} (hs : x_sh a = (9, 39)) (hp : x_pt a 2 = none) (ha : a ≠ x_out) (h : x_V S 96 123 L (.int (I (g a 2)) :: st) (x_vm g) n Q) : x_V S 96 120 L (.ref a :: st) (x_vm g) n Q := v_get (i := 2) cf9 d96_120 (by decide) w697 hs hp ha h
theorem s96_123 {S : Nat × (Nat → Int32)} {L : List (Option Value)} {st : List Value} {n : Nat} {Q : xQ} {μ : xM}  (h : x_V S 96 130 L (st) μ n Q) : x_V S 96 123 L (st) μ n Q := x_goto (tgt := 130) (by decide) d96_123 h
theorem s96_126 {S : Nat × (Nat → Int32)} {L : List (Option Value)} {st : List Value} {n : Nat} {Q : xQ} {μ : xM} {a : Nat} (hl : L[0]? = some (some (.ref a))) (h : x_V S 96 127 L (.ref a :: st) μ n Q) : x_V S 96 126 L (st) μ n Q := x_aload_n d96_126 hl h
theorem s96_126N {S : Nat × (Nat → Int32)} {L : List (Option Value)} {st : List Value} {n : Nat} {Q : xQ} {μ : xM} (hl : L[0]? = some (some .null)) (h : x_V S 96 127 L (.null :: st) μ n Q) : x_V S 96 126 L st μ n Q := x_aload_nN d96_126 hl h
theorem s96_127 {S : Nat × (Nat → Int32)} {L : List (Option Value)} {st : List Value} {n : Nat} {Q : xQ} {g : Nat → Nat → Int} {a : Nat} (hs : x_sh a = (9, 39)) (hp : x_pt a 18 = none) (ha : a ≠ x_out) (h : x_V S 96 130 L (.int (I (g a 18)) :: st) (x_vm g) n Q) : x_V S 96 127 L (.ref a :: st) (x_vm g) n Q := v_get (i := 18) cf9 d96_127 (by decide) w713 hs hp ha h
theorem s96_130 {S : Nat × (Nat → Int32)} {L : List (Option Value)} {st : List Value} {n : Nat} {Q : xQ} {μ : xM} {x : Int32} (h : x_V S 96 132 (L.set 8 (some (.int x))) (st) μ n Q) : x_V S 96 130 L (.int x :: st) μ n Q := x_istore d96_130 (by decide) h
theorem s96_132 {S : Nat × (Nat → Int32)} {L : List (Option Value)} {st : List Value} {n : Nat} {Q : xQ} {μ : xM}  (h : x_V S 96 133 L (.int (I 0) :: st) μ n Q) : x_V S 96 132 L (st) μ n Q := x_iconst (by decide +kernel) d96_132 h
theorem s96_133 {S : Nat × (Nat → Int32)} {L : List (Option Value)} {st : List Value} {n : Nat} {Q : xQ} {μ : xM} {x : Int32} (h : x_V S 96 135 (L.set 9 (some (.int x))) (st) μ n Q) : x_V S 96 133 L (.int x :: st) μ n Q := x_istore d96_133 (by decide) h
theorem s96_135 {S : Nat × (Nat → Int32)} {L : List (Option Value)} {st : List Value} {n : Nat} {Q : xQ} {μ : xM}  (h : x_V S 96 136 L (.int (I 0) :: st) μ n Q) : x_V S 96 135 L (st) μ n Q := x_iconst (by decide +kernel) d96_135 h
theorem s96_136 {S : Nat × (Nat → Int32)} {L : List (Option Value)} {st : List Value} {n : Nat} {Q : xQ} {μ : xM} {x : Int32} (h : x_V S 96 138 (L.set 10 (some (.int x))) (st) μ n Q) : x_V S 96 136 L (.int x :: st) μ n Q := x_istore d96_136 (by decide) h
theorem s96_138 {S : Nat × (Nat → Int32)} {L : List (Option Value)} {st : List Value} {n : Nat} {Q : xQ} {μ : xM} {x : Int32} (hl : L[10]? = some (some (.int x))) (h : x_V S 96 140 L (.int x :: st) μ n Q) : x_V S 96 138 L (st) μ n Q := x_iload d96_138 hl h
theorem s96_140 {S : Nat × (Nat → Int32)} {L : List (Option Value)} {st : List Value} {n : Nat} {Q : xQ} {μ : xM} {x : Int32} (hl : L[8]? = some (some (.int x))) (h : x_V S 96 142 L (.int x :: st) μ n Q) : x_V S 96 140 L (st) μ n Q := x_iload d96_140 hl h
theorem s96_142 {S : Nat × (Nat → Int32)} {L : List (Option Value)} {st : List Value} {n : Nat} {Q : xQ} {μ : xM} {x y : Int} (hx : ib x) (hy : ib y) (kt : y ≤ x → x_V S 96 162 L (st) μ n Q) (kf : x < y → x_V S 96 145 L (st) μ n Q) : x_V S 96 142 L (.int (I y) :: .int (I x) :: st) μ n Q := v_icmp_ge d96_142 (by decide) hx hy kt kf
theorem s96_145 {S : Nat × (Nat → Int32)} {L : List (Option Value)} {st : List Value} {n : Nat} {Q : xQ} {μ : xM} {x : Int32} (hl : L[9]? = some (some (.int x))) (h : x_V S 96 147 L (.int x :: st) μ n Q) : x_V S 96 145 L (st) μ n Q := x_iload d96_145 hl h
theorem s96_147 {S : Nat × (Nat → Int32)} {L : List (Option Value)} {st : List Value} {n : Nat} {Q : xQ} {μ : xM} {a : Nat} (hl : L[0]? = some (some (.ref a))) (h : x_V S 96 148 L (.ref a :: st) μ n Q) : x_V S 96 147 L (st) μ n Q := x_aload_n d96_147 hl h
theorem s96_147N {S : Nat × (Nat → Int32)} {L : List (Option Value)} {st : List Value} {n : Nat} {Q : xQ} {μ : xM} (hl : L[0]? = some (some .null)) (h : x_V S 96 148 L (.null :: st) μ n Q) : x_V S 96 147 L st μ n Q := x_aload_nN d96_147 hl h
theorem s96_148 {S : Nat × (Nat → Int32)} {L : List (Option Value)} {st : List Value} {n : Nat} {Q : xQ} {μ : xM} {x : Int32} (hl : L[10]? = some (some (.int x))) (h : x_V S 96 150 L (.int x :: st) μ n Q) : x_V S 96 148 L (st) μ n Q := x_iload d96_148 hl h
theorem s96_150 {S : Nat × (Nat → Int32)} {L : List (Option Value)} {st : List Value} {n : Nat} {Q : xQ} {μ : xM} {x0 : Int32} {a : Nat} (hs : x_sh a = (9, 39)) (hst : st.length ≤ 4) (h : x_V S 92 0 [some (.ref a), some (.int x0)] [] μ n (x_bk S 96 150 L st Q)) : x_V S 96 150 L (.int x0 :: .ref a :: st) μ n Q := x_callV (k' := 92) (as := [.int x0]) (na := 1) d96_150 ⟨w869, by decide +kernel, by decide, by decide, by decide, by decide, by decide⟩ cf9 w866 w868 wp31 (by decide +kernel) rfl hs (fun v hv => by
    simp only [List.mem_cons, List.not_mem_nil, or_false] at hv
    rcases hv with rfl <;> first | rfl | assumption) hst h
theorem s96_153 {S : Nat × (Nat → Int32)} {L : List (Option Value)} {st : List Value} {n : Nat} {Q : xQ} {μ : xM} {x y : Int} (h : x_V S 96 154 L (.int (I (x + y)) :: st) μ n Q) : x_V S 96 153 L (.int (I y) :: .int (I x) :: st) μ n Q := v_iadd d96_153 h
theorem s96_154 {S : Nat × (Nat → Int32)} {L : List (Option Value)} {st : List Value} {n : Nat} {Q : xQ} {μ : xM} {x : Int32} (h : x_V S 96 156 (L.set 9 (some (.int x))) (st) μ n Q) : x_V S 96 154 L (.int x :: st) μ n Q := x_istore d96_154 (by decide) h
theorem s96_156 {S : Nat × (Nat → Int32)} {L : List (Option Value)} {st : List Value} {n : Nat} {Q : xQ} {μ : xM} {x : Int} (hl : L[10]? = some (some (.int (I x)))) (h : x_V S 96 159 (L.set 10 (some (.int (I (x + 1))))) (st) μ n Q) : x_V S 96 156 L (st) μ n Q := v_iinc d96_156 hl (by decide) h
theorem s96_159 {S : Nat × (Nat → Int32)} {L : List (Option Value)} {st : List Value} {n : Nat} {Q : xQ} {μ : xM}  (h : x_V S 96 138 L (st) μ n Q) : x_V S 96 159 L (st) μ n Q := x_goto (tgt := 138) (by decide) d96_159 h
theorem s96_162 {S : Nat × (Nat → Int32)} {L : List (Option Value)} {st : List Value} {n : Nat} {Q : xQ} {μ : xM} {a : Nat} (hl : L[0]? = some (some (.ref a))) (h : x_V S 96 163 L (.ref a :: st) μ n Q) : x_V S 96 162 L (st) μ n Q := x_aload_n d96_162 hl h
theorem s96_162N {S : Nat × (Nat → Int32)} {L : List (Option Value)} {st : List Value} {n : Nat} {Q : xQ} {μ : xM} (hl : L[0]? = some (some .null)) (h : x_V S 96 163 L (.null :: st) μ n Q) : x_V S 96 162 L st μ n Q := x_aload_nN d96_162 hl h
theorem s96_163 {S : Nat × (Nat → Int32)} {L : List (Option Value)} {st : List Value} {n : Nat} {Q : xQ} {μ : xM}  (h : x_V S 96 165 L (.int (I 10) :: st) μ n Q) : x_V S 96 163 L (st) μ n Q := x_bipush (by decide +kernel) d96_163 h
theorem s96_165 {S : Nat × (Nat → Int32)} {L : List (Option Value)} {st : List Value} {n : Nat} {Q : xQ} {μ : xM} {x0 : Int32} {a : Nat} (hs : x_sh a = (9, 39)) (hst : st.length ≤ 4) (h : x_V S 88 0 [some (.ref a), some (.int x0), none, none] [] μ n (x_bk S 96 165 L st Q)) : x_V S 96 165 L (.int x0 :: .ref a :: st) μ n Q := x_callV (k' := 88) (as := [.int x0]) (na := 1) d96_165 ⟨w844, by decide +kernel, by decide, by decide, by decide, by decide, by decide⟩ cf9 w841 w843 wp27 (by decide +kernel) rfl hs (fun v hv => by
    simp only [List.mem_cons, List.not_mem_nil, or_false] at hv
    rcases hv with rfl <;> first | rfl | assumption) hst h
theorem s96_168 {S : Nat × (Nat → Int32)} {L : List (Option Value)} {st : List Value} {n : Nat} {Q : xQ} {μ : xM} {a : Nat} (hl : L[0]? = some (some (.ref a))) (h : x_V S 96 169 L (.ref a :: st) μ n Q) : x_V S 96 168 L (st) μ n Q := x_aload_n d96_168 hl h
theorem s96_168N {S : Nat × (Nat → Int32)} {L : List (Option Value)} {st : List Value} {n : Nat} {Q : xQ} {μ : xM} (hl : L[0]? = some (some .null)) (h : x_V S 96 169 L (.null :: st) μ n Q) : x_V S 96 168 L st μ n Q := x_aload_nN d96_168 hl h
theorem s96_169 {S : Nat × (Nat → Int32)} {L : List (Option Value)} {st : List Value} {n : Nat} {Q : xQ} {μ : xM}  (h : x_V S 96 171 L (.int (I 61) :: st) μ n Q) : x_V S 96 169 L (st) μ n Q := x_bipush (by decide +kernel) d96_169 h
theorem s96_171 {S : Nat × (Nat → Int32)} {L : List (Option Value)} {st : List Value} {n : Nat} {Q : xQ} {μ : xM} {x0 : Int32} {a : Nat} (hs : x_sh a = (9, 39)) (hst : st.length ≤ 4) (h : x_V S 87 0 [some (.ref a), some (.int x0)] [] μ n (x_bk S 96 171 L st Q)) : x_V S 96 171 L (.int x0 :: .ref a :: st) μ n Q := x_callV (k' := 87) (as := [.int x0]) (na := 1) d96_171 ⟨w848, by decide +kernel, by decide, by decide, by decide, by decide, by decide⟩ cf9 w845 w847 wp28 (by decide +kernel) rfl hs (fun v hv => by
    simp only [List.mem_cons, List.not_mem_nil, or_false] at hv
    rcases hv with rfl <;> first | rfl | assumption) hst h
theorem s96_174 {S : Nat × (Nat → Int32)} {L : List (Option Value)} {st : List Value} {n : Nat} {Q : xQ} {μ : xM} {a : Nat} (hl : L[0]? = some (some (.ref a))) (h : x_V S 96 175 L (.ref a :: st) μ n Q) : x_V S 96 174 L (st) μ n Q := x_aload_n d96_174 hl h
theorem s96_174N {S : Nat × (Nat → Int32)} {L : List (Option Value)} {st : List Value} {n : Nat} {Q : xQ} {μ : xM} (hl : L[0]? = some (some .null)) (h : x_V S 96 175 L (.null :: st) μ n Q) : x_V S 96 174 L st μ n Q := x_aload_nN d96_174 hl h
theorem s96_175 {S : Nat × (Nat → Int32)} {L : List (Option Value)} {st : List Value} {n : Nat} {Q : xQ} {μ : xM}  (h : x_V S 96 177 L (.int (I 48) :: st) μ n Q) : x_V S 96 175 L (st) μ n Q := x_bipush (by decide +kernel) d96_175 h
theorem s96_177 {S : Nat × (Nat → Int32)} {L : List (Option Value)} {st : List Value} {n : Nat} {Q : xQ} {μ : xM} {x : Int32} (hl : L[9]? = some (some (.int x))) (h : x_V S 96 179 L (.int x :: st) μ n Q) : x_V S 96 177 L (st) μ n Q := x_iload d96_177 hl h
theorem s96_179 {S : Nat × (Nat → Int32)} {L : List (Option Value)} {st : List Value} {n : Nat} {Q : xQ} {μ : xM}  (h : x_V S 96 182 L (.int (I 256) :: st) μ n Q) : x_V S 96 179 L (st) μ n Q := x_sipush (by decide +kernel) d96_179 h
theorem s96_182 {S : Nat × (Nat → Int32)} {L : List (Option Value)} {st : List Value} {n : Nat} {Q : xQ} {μ : xM} {x y : Int} (hx : ib x) (hy : ib y) (hx0 : 0 ≤ x) (hy0 : 0 < y) (h : x_V S 96 183 L (.int (I (x % y)) :: st) μ n Q) : x_V S 96 182 L (.int (I y) :: .int (I x) :: st) μ n Q := v_irem d96_182 hx hy hx0 hy0 h
theorem s96_183 {S : Nat × (Nat → Int32)} {L : List (Option Value)} {st : List Value} {n : Nat} {Q : xQ} {μ : xM}  (h : x_V S 96 185 L (.int (I 100) :: st) μ n Q) : x_V S 96 183 L (st) μ n Q := x_bipush (by decide +kernel) d96_183 h
theorem s96_185 {S : Nat × (Nat → Int32)} {L : List (Option Value)} {st : List Value} {n : Nat} {Q : xQ} {μ : xM} {x y : Int} (hx : ib x) (hy : ib y) (hx0 : 0 ≤ x) (hy0 : 0 < y) (h : x_V S 96 186 L (.int (I (x / y)) :: st) μ n Q) : x_V S 96 185 L (.int (I y) :: .int (I x) :: st) μ n Q := v_idiv d96_185 hx hy hx0 hy0 h
theorem s96_186 {S : Nat × (Nat → Int32)} {L : List (Option Value)} {st : List Value} {n : Nat} {Q : xQ} {μ : xM} {x y : Int} (h : x_V S 96 187 L (.int (I (x + y)) :: st) μ n Q) : x_V S 96 186 L (.int (I y) :: .int (I x) :: st) μ n Q := v_iadd d96_186 h
theorem s96_187 {S : Nat × (Nat → Int32)} {L : List (Option Value)} {st : List Value} {n : Nat} {Q : xQ} {μ : xM} {x0 : Int32} {a : Nat} (hs : x_sh a = (9, 39)) (hst : st.length ≤ 4) (h : x_V S 87 0 [some (.ref a), some (.int x0)] [] μ n (x_bk S 96 187 L st Q)) : x_V S 96 187 L (.int x0 :: .ref a :: st) μ n Q := x_callV (k' := 87) (as := [.int x0]) (na := 1) d96_187 ⟨w848, by decide +kernel, by decide, by decide, by decide, by decide, by decide⟩ cf9 w845 w847 wp28 (by decide +kernel) rfl hs (fun v hv => by
    simp only [List.mem_cons, List.not_mem_nil, or_false] at hv
    rcases hv with rfl <;> first | rfl | assumption) hst h
theorem s96_190 {S : Nat × (Nat → Int32)} {L : List (Option Value)} {st : List Value} {n : Nat} {Q : xQ} {μ : xM} {a : Nat} (hl : L[0]? = some (some (.ref a))) (h : x_V S 96 191 L (.ref a :: st) μ n Q) : x_V S 96 190 L (st) μ n Q := x_aload_n d96_190 hl h
theorem s96_190N {S : Nat × (Nat → Int32)} {L : List (Option Value)} {st : List Value} {n : Nat} {Q : xQ} {μ : xM} (hl : L[0]? = some (some .null)) (h : x_V S 96 191 L (.null :: st) μ n Q) : x_V S 96 190 L st μ n Q := x_aload_nN d96_190 hl h
theorem s96_191 {S : Nat × (Nat → Int32)} {L : List (Option Value)} {st : List Value} {n : Nat} {Q : xQ} {μ : xM}  (h : x_V S 96 193 L (.int (I 48) :: st) μ n Q) : x_V S 96 191 L (st) μ n Q := x_bipush (by decide +kernel) d96_191 h
theorem s96_193 {S : Nat × (Nat → Int32)} {L : List (Option Value)} {st : List Value} {n : Nat} {Q : xQ} {μ : xM} {x : Int32} (hl : L[9]? = some (some (.int x))) (h : x_V S 96 195 L (.int x :: st) μ n Q) : x_V S 96 193 L (st) μ n Q := x_iload d96_193 hl h
theorem s96_195 {S : Nat × (Nat → Int32)} {L : List (Option Value)} {st : List Value} {n : Nat} {Q : xQ} {μ : xM}  (h : x_V S 96 198 L (.int (I 256) :: st) μ n Q) : x_V S 96 195 L (st) μ n Q := x_sipush (by decide +kernel) d96_195 h
theorem s96_198 {S : Nat × (Nat → Int32)} {L : List (Option Value)} {st : List Value} {n : Nat} {Q : xQ} {μ : xM} {x y : Int} (hx : ib x) (hy : ib y) (hx0 : 0 ≤ x) (hy0 : 0 < y) (h : x_V S 96 199 L (.int (I (x % y)) :: st) μ n Q) : x_V S 96 198 L (.int (I y) :: .int (I x) :: st) μ n Q := v_irem d96_198 hx hy hx0 hy0 h
theorem s96_199 {S : Nat × (Nat → Int32)} {L : List (Option Value)} {st : List Value} {n : Nat} {Q : xQ} {μ : xM}  (h : x_V S 96 201 L (.int (I 10) :: st) μ n Q) : x_V S 96 199 L (st) μ n Q := x_bipush (by decide +kernel) d96_199 h
theorem s96_201 {S : Nat × (Nat → Int32)} {L : List (Option Value)} {st : List Value} {n : Nat} {Q : xQ} {μ : xM} {x y : Int} (hx : ib x) (hy : ib y) (hx0 : 0 ≤ x) (hy0 : 0 < y) (h : x_V S 96 202 L (.int (I (x / y)) :: st) μ n Q) : x_V S 96 201 L (.int (I y) :: .int (I x) :: st) μ n Q := v_idiv d96_201 hx hy hx0 hy0 h
theorem s96_202 {S : Nat × (Nat → Int32)} {L : List (Option Value)} {st : List Value} {n : Nat} {Q : xQ} {μ : xM}  (h : x_V S 96 204 L (.int (I 10) :: st) μ n Q) : x_V S 96 202 L (st) μ n Q := x_bipush (by decide +kernel) d96_202 h
theorem s96_204 {S : Nat × (Nat → Int32)} {L : List (Option Value)} {st : List Value} {n : Nat} {Q : xQ} {μ : xM} {x y : Int} (hx : ib x) (hy : ib y) (hx0 : 0 ≤ x) (hy0 : 0 < y) (h : x_V S 96 205 L (.int (I (x % y)) :: st) μ n Q) : x_V S 96 204 L (.int (I y) :: .int (I x) :: st) μ n Q := v_irem d96_204 hx hy hx0 hy0 h
theorem s96_205 {S : Nat × (Nat → Int32)} {L : List (Option Value)} {st : List Value} {n : Nat} {Q : xQ} {μ : xM} {x y : Int} (h : x_V S 96 206 L (.int (I (x + y)) :: st) μ n Q) : x_V S 96 205 L (.int (I y) :: .int (I x) :: st) μ n Q := v_iadd d96_205 h
theorem s96_206 {S : Nat × (Nat → Int32)} {L : List (Option Value)} {st : List Value} {n : Nat} {Q : xQ} {μ : xM} {x0 : Int32} {a : Nat} (hs : x_sh a = (9, 39)) (hst : st.length ≤ 4) (h : x_V S 87 0 [some (.ref a), some (.int x0)] [] μ n (x_bk S 96 206 L st Q)) : x_V S 96 206 L (.int x0 :: .ref a :: st) μ n Q := x_callV (k' := 87) (as := [.int x0]) (na := 1) d96_206 ⟨w848, by decide +kernel, by decide, by decide, by decide, by decide, by decide⟩ cf9 w845 w847 wp28 (by decide +kernel) rfl hs (fun v hv => by
    simp only [List.mem_cons, List.not_mem_nil, or_false] at hv
    rcases hv with rfl <;> first | rfl | assumption) hst h
theorem s96_209 {S : Nat × (Nat → Int32)} {L : List (Option Value)} {st : List Value} {n : Nat} {Q : xQ} {μ : xM} {a : Nat} (hl : L[0]? = some (some (.ref a))) (h : x_V S 96 210 L (.ref a :: st) μ n Q) : x_V S 96 209 L (st) μ n Q := x_aload_n d96_209 hl h
theorem s96_209N {S : Nat × (Nat → Int32)} {L : List (Option Value)} {st : List Value} {n : Nat} {Q : xQ} {μ : xM} (hl : L[0]? = some (some .null)) (h : x_V S 96 210 L (.null :: st) μ n Q) : x_V S 96 209 L st μ n Q := x_aload_nN d96_209 hl h
theorem s96_210 {S : Nat × (Nat → Int32)} {L : List (Option Value)} {st : List Value} {n : Nat} {Q : xQ} {μ : xM}  (h : x_V S 96 212 L (.int (I 48) :: st) μ n Q) : x_V S 96 210 L (st) μ n Q := x_bipush (by decide +kernel) d96_210 h
theorem s96_212 {S : Nat × (Nat → Int32)} {L : List (Option Value)} {st : List Value} {n : Nat} {Q : xQ} {μ : xM} {x : Int32} (hl : L[9]? = some (some (.int x))) (h : x_V S 96 214 L (.int x :: st) μ n Q) : x_V S 96 212 L (st) μ n Q := x_iload d96_212 hl h
theorem s96_214 {S : Nat × (Nat → Int32)} {L : List (Option Value)} {st : List Value} {n : Nat} {Q : xQ} {μ : xM}  (h : x_V S 96 217 L (.int (I 256) :: st) μ n Q) : x_V S 96 214 L (st) μ n Q := x_sipush (by decide +kernel) d96_214 h
theorem s96_217 {S : Nat × (Nat → Int32)} {L : List (Option Value)} {st : List Value} {n : Nat} {Q : xQ} {μ : xM} {x y : Int} (hx : ib x) (hy : ib y) (hx0 : 0 ≤ x) (hy0 : 0 < y) (h : x_V S 96 218 L (.int (I (x % y)) :: st) μ n Q) : x_V S 96 217 L (.int (I y) :: .int (I x) :: st) μ n Q := v_irem d96_217 hx hy hx0 hy0 h
theorem s96_218 {S : Nat × (Nat → Int32)} {L : List (Option Value)} {st : List Value} {n : Nat} {Q : xQ} {μ : xM}  (h : x_V S 96 220 L (.int (I 10) :: st) μ n Q) : x_V S 96 218 L (st) μ n Q := x_bipush (by decide +kernel) d96_218 h
theorem s96_220 {S : Nat × (Nat → Int32)} {L : List (Option Value)} {st : List Value} {n : Nat} {Q : xQ} {μ : xM} {x y : Int} (hx : ib x) (hy : ib y) (hx0 : 0 ≤ x) (hy0 : 0 < y) (h : x_V S 96 221 L (.int (I (x % y)) :: st) μ n Q) : x_V S 96 220 L (.int (I y) :: .int (I x) :: st) μ n Q := v_irem d96_220 hx hy hx0 hy0 h
theorem s96_221 {S : Nat × (Nat → Int32)} {L : List (Option Value)} {st : List Value} {n : Nat} {Q : xQ} {μ : xM} {x y : Int} (h : x_V S 96 222 L (.int (I (x + y)) :: st) μ n Q) : x_V S 96 221 L (.int (I y) :: .int (I x) :: st) μ n Q := v_iadd d96_221 h
theorem s96_222 {S : Nat × (Nat → Int32)} {L : List (Option Value)} {st : List Value} {n : Nat} {Q : xQ} {μ : xM} {x0 : Int32} {a : Nat} (hs : x_sh a = (9, 39)) (hst : st.length ≤ 4) (h : x_V S 87 0 [some (.ref a), some (.int x0)] [] μ n (x_bk S 96 222 L st Q)) : x_V S 96 222 L (.int x0 :: .ref a :: st) μ n Q := x_callV (k' := 87) (as := [.int x0]) (na := 1) d96_222 ⟨w848, by decide +kernel, by decide, by decide, by decide, by decide, by decide⟩ cf9 w845 w847 wp28 (by decide +kernel) rfl hs (fun v hv => by
    simp only [List.mem_cons, List.not_mem_nil, or_false] at hv
    rcases hv with rfl <;> first | rfl | assumption) hst h
theorem s96_225 {S : Nat × (Nat → Int32)} {L : List (Option Value)} {st : List Value} {n : Nat} {Q : xQ} {μ : xM} {a : Nat} (hl : L[0]? = some (some (.ref a))) (h : x_V S 96 226 L (.ref a :: st) μ n Q) : x_V S 96 225 L (st) μ n Q := x_aload_n d96_225 hl h
theorem s96_225N {S : Nat × (Nat → Int32)} {L : List (Option Value)} {st : List Value} {n : Nat} {Q : xQ} {μ : xM} (hl : L[0]? = some (some .null)) (h : x_V S 96 226 L (.null :: st) μ n Q) : x_V S 96 225 L st μ n Q := x_aload_nN d96_225 hl h
theorem s96_226 {S : Nat × (Nat → Int32)} {L : List (Option Value)} {st : List Value} {n : Nat} {Q : xQ} {μ : xM}  (h : x_V S 96 227 L (.int (I 1) :: st) μ n Q) : x_V S 96 226 L (st) μ n Q := x_iconst (by decide +kernel) d96_226 h
theorem s96_227 {S : Nat × (Nat → Int32)} {L : List (Option Value)} {st : List Value} {n : Nat} {Q : xQ} {μ : xM} {x0 : Int32} {a : Nat} (hs : x_sh a = (9, 39)) (hst : st.length ≤ 4) (h : x_V S 87 0 [some (.ref a), some (.int x0)] [] μ n (x_bk S 96 227 L st Q)) : x_V S 96 227 L (.int x0 :: .ref a :: st) μ n Q := x_callV (k' := 87) (as := [.int x0]) (na := 1) d96_227 ⟨w848, by decide +kernel, by decide, by decide, by decide, by decide, by decide⟩ cf9 w845 w847 wp28 (by decide +kernel) rfl hs (fun v hv => by
    simp only [List.mem_cons, List.not_mem_nil, or_false] at hv
    rcases hv with rfl <;> first | rfl | assumption) hst h
theorem s96_230 {S : Nat × (Nat → Int32)} {L : List (Option Value)} {st : List Value} {n : Nat} {Q : xQ} {μ : xM}  (h : Q (.inl none) μ n) : x_V S 96 230 L ([]) μ n Q := x_return d96_230 rfl h
theorem mC_97 : mC 97 = prog_12_method_15_code := rfl
theorem d97_0 : decode (mC 97) 0 = .ok (.aload_n 0, 1) := by rw [mC_97]; decide +kernel
theorem d97_1 : decode (mC 97) 1 = .ok (.iconst 0, 1) := by rw [mC_97]; decide +kernel
theorem d97_2 : decode (mC 97) 2 = .ok (.putfield 63, 3) := by rw [mC_97]; decide +kernel
theorem d97_5 : decode (mC 97) 5 = .ok (.aload_n 0, 1) := by rw [mC_97]; decide +kernel
theorem d97_6 : decode (mC 97) 6 = .ok (.iload_n 1, 1) := by rw [mC_97]; decide +kernel
theorem d97_7 : decode (mC 97) 7 = .ok (.iload_n 2, 1) := by rw [mC_97]; decide +kernel
theorem d97_8 : decode (mC 97) 8 = .ok (.iload_n 3, 1) := by rw [mC_97]; decide +kernel
theorem d97_9 : decode (mC 97) 9 = .ok (.iload 4, 2) := by rw [mC_97]; decide +kernel
theorem d97_11 : decode (mC 97) 11 = .ok (.iload 5, 2) := by rw [mC_97]; decide +kernel
theorem d97_13 : decode (mC 97) 13 = .ok (.iload 6, 2) := by rw [mC_97]; decide +kernel
theorem d97_15 : decode (mC 97) 15 = .ok (.iload 7, 2) := by rw [mC_97]; decide +kernel
theorem d97_17 : decode (mC 97) 17 = .ok (.invokevirtual 108, 3) := by rw [mC_97]; decide +kernel
theorem d97_20 : decode (mC 97) 20 = .ok (.aload_n 0, 1) := by rw [mC_97]; decide +kernel
theorem d97_21 : decode (mC 97) 21 = .ok (.getfield 70, 3) := by rw [mC_97]; decide +kernel
theorem d97_24 : decode (mC 97) 24 = .ok (.bipush 20, 2) := by rw [mC_97]; decide +kernel
theorem d97_26 : decode (mC 97) 26 = .ok (.if_icmp .ge 16, 3) := by rw [mC_97]; decide +kernel
theorem d97_29 : decode (mC 97) 29 = .ok (.aload_n 0, 1) := by rw [mC_97]; decide +kernel
theorem d97_30 : decode (mC 97) 30 = .ok (.getfield 25, 3) := by rw [mC_97]; decide +kernel
theorem d97_33 : decode (mC 97) 33 = .ok (.aload_n 0, 1) := by rw [mC_97]; decide +kernel
theorem d97_34 : decode (mC 97) 34 = .ok (.getfield 70, 3) := by rw [mC_97]; decide +kernel
theorem d97_37 : decode (mC 97) 37 = .ok (.aload_n 0, 1) := by rw [mC_97]; decide +kernel
theorem d97_38 : decode (mC 97) 38 = .ok (.getfield 73, 3) := by rw [mC_97]; decide +kernel
theorem d97_41 : decode (mC 97) 41 = .ok (.iastore, 1) := by rw [mC_97]; decide +kernel
theorem d97_42 : decode (mC 97) 42 = .ok (.aload_n 0, 1) := by rw [mC_97]; decide +kernel
theorem d97_43 : decode (mC 97) 43 = .ok (.dup, 1) := by rw [mC_97]; decide +kernel
theorem d97_44 : decode (mC 97) 44 = .ok (.getfield 70, 3) := by rw [mC_97]; decide +kernel
theorem d97_47 : decode (mC 97) 47 = .ok (.iconst 1, 1) := by rw [mC_97]; decide +kernel
theorem d97_48 : decode (mC 97) 48 = .ok (.iadd, 1) := by rw [mC_97]; decide +kernel
theorem d97_49 : decode (mC 97) 49 = .ok (.putfield 70, 3) := by rw [mC_97]; decide +kernel
theorem d97_52 : decode (mC 97) 52 = .ok (.aload_n 0, 1) := by rw [mC_97]; decide +kernel
theorem d97_53 : decode (mC 97) 53 = .ok (.aload_n 0, 1) := by rw [mC_97]; decide +kernel
theorem d97_54 : decode (mC 97) 54 = .ok (.getfield 112, 3) := by rw [mC_97]; decide +kernel
theorem d97_57 : decode (mC 97) 57 = .ok (.putfield 115, 3) := by rw [mC_97]; decide +kernel
theorem d97_60 : decode (mC 97) 60 = .ok (.return_, 1) := by rw [mC_97]; decide +kernel
theorem s97_0 {S : Nat × (Nat → Int32)} {L : List (Option Value)} {st : List Value} {n : Nat} {Q : xQ} {μ : xM} {a : Nat} (hl : L[0]? = some (some (.ref a))) (h : x_V S 97 1 L (.ref a :: st) μ n Q) : x_V S 97 0 L (st) μ n Q := x_aload_n d97_0 hl h
theorem s97_0N {S : Nat × (Nat → Int32)} {L : List (Option Value)} {st : List Value} {n : Nat} {Q : xQ} {μ : xM} (hl : L[0]? = some (some .null)) (h : x_V S 97 1 L (.null :: st) μ n Q) : x_V S 97 0 L st μ n Q := x_aload_nN d97_0 hl h
theorem s97_1 {S : Nat × (Nat → Int32)} {L : List (Option Value)} {st : List Value} {n : Nat} {Q : xQ} {μ : xM}  (h : x_V S 97 2 L (.int (I 0) :: st) μ n Q) : x_V S 97 1 L (st) μ n Q := x_iconst (by decide +kernel) d97_1 h
theorem s97_2 {S : Nat × (Nat → Int32)} {L : List (Option Value)} {st : List Value} {n : Nat} {Q : xQ} {g : Nat → Nat → Int} {a : Nat} {x : Int} (hs : x_sh a = (9, 39)) (hx : x = 0 ∨ x = 1) (hp : x_pt a 38 = none) (ha : a ≠ x_out) (h : x_V S 97 5 L (st) (x_vm (x_uf g a 38 x)) n Q) : x_V S 97 2 L (.int (I x) :: .ref a :: st) (x_vm g) n Q := v_putz (i := 38) cf9 d97_2 (by decide) rfl w733 hs rfl hx hp ha h
theorem s97_5 {S : Nat × (Nat → Int32)} {L : List (Option Value)} {st : List Value} {n : Nat} {Q : xQ} {μ : xM} {a : Nat} (hl : L[0]? = some (some (.ref a))) (h : x_V S 97 6 L (.ref a :: st) μ n Q) : x_V S 97 5 L (st) μ n Q := x_aload_n d97_5 hl h
theorem s97_5N {S : Nat × (Nat → Int32)} {L : List (Option Value)} {st : List Value} {n : Nat} {Q : xQ} {μ : xM} (hl : L[0]? = some (some .null)) (h : x_V S 97 6 L (.null :: st) μ n Q) : x_V S 97 5 L st μ n Q := x_aload_nN d97_5 hl h
theorem s97_6 {S : Nat × (Nat → Int32)} {L : List (Option Value)} {st : List Value} {n : Nat} {Q : xQ} {μ : xM} {x : Int32} (hl : L[1]? = some (some (.int x))) (h : x_V S 97 7 L (.int x :: st) μ n Q) : x_V S 97 6 L (st) μ n Q := x_iload_n d97_6 hl h
theorem s97_7 {S : Nat × (Nat → Int32)} {L : List (Option Value)} {st : List Value} {n : Nat} {Q : xQ} {μ : xM} {x : Int32} (hl : L[2]? = some (some (.int x))) (h : x_V S 97 8 L (.int x :: st) μ n Q) : x_V S 97 7 L (st) μ n Q := x_iload_n d97_7 hl h
theorem s97_8 {S : Nat × (Nat → Int32)} {L : List (Option Value)} {st : List Value} {n : Nat} {Q : xQ} {μ : xM} {x : Int32} (hl : L[3]? = some (some (.int x))) (h : x_V S 97 9 L (.int x :: st) μ n Q) : x_V S 97 8 L (st) μ n Q := x_iload_n d97_8 hl h
theorem s97_9 {S : Nat × (Nat → Int32)} {L : List (Option Value)} {st : List Value} {n : Nat} {Q : xQ} {μ : xM} {x : Int32} (hl : L[4]? = some (some (.int x))) (h : x_V S 97 11 L (.int x :: st) μ n Q) : x_V S 97 9 L (st) μ n Q := x_iload d97_9 hl h
theorem s97_11 {S : Nat × (Nat → Int32)} {L : List (Option Value)} {st : List Value} {n : Nat} {Q : xQ} {μ : xM} {x : Int32} (hl : L[5]? = some (some (.int x))) (h : x_V S 97 13 L (.int x :: st) μ n Q) : x_V S 97 11 L (st) μ n Q := x_iload d97_11 hl h
theorem s97_13 {S : Nat × (Nat → Int32)} {L : List (Option Value)} {st : List Value} {n : Nat} {Q : xQ} {μ : xM} {x : Int32} (hl : L[6]? = some (some (.int x))) (h : x_V S 97 15 L (.int x :: st) μ n Q) : x_V S 97 13 L (st) μ n Q := x_iload d97_13 hl h
theorem s97_15 {S : Nat × (Nat → Int32)} {L : List (Option Value)} {st : List Value} {n : Nat} {Q : xQ} {μ : xM} {x : Int32} (hl : L[7]? = some (some (.int x))) (h : x_V S 97 17 L (.int x :: st) μ n Q) : x_V S 97 15 L (st) μ n Q := x_iload d97_15 hl h
theorem s97_17 {S : Nat × (Nat → Int32)} {L : List (Option Value)} {st : List Value} {n : Nat} {Q : xQ} {μ : xM} {x0 : Int32} {x1 : Int32} {x2 : Int32} {x3 : Int32} {x4 : Int32} {x5 : Int32} {x6 : Int32} {a : Nat} (hs : x_sh a = (9, 39)) (hst : st.length ≤ 4) (h : x_V S 96 0 [some (.ref a), some (.int x0), some (.int x1), some (.int x2), some (.int x3), some (.int x4), some (.int x5), some (.int x6), none, none, none] [] μ n (x_bk S 97 17 L st Q)) : x_V S 97 17 L (.int x6 :: .int x5 :: .int x4 :: .int x3 :: .int x2 :: .int x1 :: .int x0 :: .ref a :: st) μ n Q := x_callV (k' := 96) (as := [.int x0, .int x1, .int x2, .int x3, .int x4, .int x5, .int x6]) (na := 7) d97_17 ⟨w836, by decide +kernel, by decide, by decide, by decide, by decide, by decide⟩ cf9 w833 w835 wp25 (by decide +kernel) rfl hs (fun v hv => by
    simp only [List.mem_cons, List.not_mem_nil, or_false] at hv
    rcases hv with rfl | rfl | rfl | rfl | rfl | rfl | rfl <;> first | rfl | assumption) hst h
theorem s97_20 {S : Nat × (Nat → Int32)} {L : List (Option Value)} {st : List Value} {n : Nat} {Q : xQ} {μ : xM} {a : Nat} (hl : L[0]? = some (some (.ref a))) (h : x_V S 97 21 L (.ref a :: st) μ n Q) : x_V S 97 20 L (st) μ n Q := x_aload_n d97_20 hl h
theorem s97_20N {S : Nat × (Nat → Int32)} {L : List (Option Value)} {st : List Value} {n : Nat} {Q : xQ} {μ : xM} (hl : L[0]? = some (some .null)) (h : x_V S 97 21 L (.null :: st) μ n Q) : x_V S 97 20 L st μ n Q := x_aload_nN d97_20 hl h
theorem s97_21 {S : Nat × (Nat → Int32)} {L : List (Option Value)} {st : List Value} {n : Nat} {Q : xQ} {g : Nat → Nat → Int} {a : Nat} (hs : x_sh a = (9, 39)) (hp : x_pt a 15 = none) (ha : a ≠ x_out) (h : x_V S 97 24 L (.int (I (g a 15)) :: st) (x_vm g) n Q) : x_V S 97 21 L (.ref a :: st) (x_vm g) n Q := v_get (i := 15) cf9 d97_21 (by decide) w710 hs hp ha h
theorem s97_24 {S : Nat × (Nat → Int32)} {L : List (Option Value)} {st : List Value} {n : Nat} {Q : xQ} {μ : xM}  (h : x_V S 97 26 L (.int (I 20) :: st) μ n Q) : x_V S 97 24 L (st) μ n Q := x_bipush (by decide +kernel) d97_24 h
theorem s97_26 {S : Nat × (Nat → Int32)} {L : List (Option Value)} {st : List Value} {n : Nat} {Q : xQ} {μ : xM} {x y : Int} (hx : ib x) (hy : ib y) (kt : y ≤ x → x_V S 97 42 L (st) μ n Q) (kf : x < y → x_V S 97 29 L (st) μ n Q) : x_V S 97 26 L (.int (I y) :: .int (I x) :: st) μ n Q := v_icmp_ge d97_26 (by decide) hx hy kt kf
theorem s97_29 {S : Nat × (Nat → Int32)} {L : List (Option Value)} {st : List Value} {n : Nat} {Q : xQ} {μ : xM} {a : Nat} (hl : L[0]? = some (some (.ref a))) (h : x_V S 97 30 L (.ref a :: st) μ n Q) : x_V S 97 29 L (st) μ n Q := x_aload_n d97_29 hl h
theorem s97_29N {S : Nat × (Nat → Int32)} {L : List (Option Value)} {st : List Value} {n : Nat} {Q : xQ} {μ : xM} (hl : L[0]? = some (some .null)) (h : x_V S 97 30 L (.null :: st) μ n Q) : x_V S 97 29 L st μ n Q := x_aload_nN d97_29 hl h
theorem s97_30 {S : Nat × (Nat → Int32)} {L : List (Option Value)} {st : List Value} {n : Nat} {Q : xQ} {g : Nat → Nat → Int} {a : Nat} {v : Value} (hs : x_sh a = (9, 39)) (hp : x_pt a 17 = some v) (h : x_V S 97 33 L (v :: st) (x_vm g) n Q) : x_V S 97 30 L (.ref a :: st) (x_vm g) n Q := v_getp (i := 17) cf9 d97_30 (by decide) w712 hs hp h
theorem s97_33 {S : Nat × (Nat → Int32)} {L : List (Option Value)} {st : List Value} {n : Nat} {Q : xQ} {μ : xM} {a : Nat} (hl : L[0]? = some (some (.ref a))) (h : x_V S 97 34 L (.ref a :: st) μ n Q) : x_V S 97 33 L (st) μ n Q := x_aload_n d97_33 hl h
theorem s97_33N {S : Nat × (Nat → Int32)} {L : List (Option Value)} {st : List Value} {n : Nat} {Q : xQ} {μ : xM} (hl : L[0]? = some (some .null)) (h : x_V S 97 34 L (.null :: st) μ n Q) : x_V S 97 33 L st μ n Q := x_aload_nN d97_33 hl h
theorem s97_34 {S : Nat × (Nat → Int32)} {L : List (Option Value)} {st : List Value} {n : Nat} {Q : xQ} {g : Nat → Nat → Int} {a : Nat} (hs : x_sh a = (9, 39)) (hp : x_pt a 15 = none) (ha : a ≠ x_out) (h : x_V S 97 37 L (.int (I (g a 15)) :: st) (x_vm g) n Q) : x_V S 97 34 L (.ref a :: st) (x_vm g) n Q := v_get (i := 15) cf9 d97_34 (by decide) w710 hs hp ha h
theorem s97_37 {S : Nat × (Nat → Int32)} {L : List (Option Value)} {st : List Value} {n : Nat} {Q : xQ} {μ : xM} {a : Nat} (hl : L[0]? = some (some (.ref a))) (h : x_V S 97 38 L (.ref a :: st) μ n Q) : x_V S 97 37 L (st) μ n Q := x_aload_n d97_37 hl h
theorem s97_37N {S : Nat × (Nat → Int32)} {L : List (Option Value)} {st : List Value} {n : Nat} {Q : xQ} {μ : xM} (hl : L[0]? = some (some .null)) (h : x_V S 97 38 L (.null :: st) μ n Q) : x_V S 97 37 L st μ n Q := x_aload_nN d97_37 hl h
theorem s97_38 {S : Nat × (Nat → Int32)} {L : List (Option Value)} {st : List Value} {n : Nat} {Q : xQ} {g : Nat → Nat → Int} {a : Nat} (hs : x_sh a = (9, 39)) (hp : x_pt a 18 = none) (ha : a ≠ x_out) (h : x_V S 97 41 L (.int (I (g a 18)) :: st) (x_vm g) n Q) : x_V S 97 38 L (.ref a :: st) (x_vm g) n Q := v_get (i := 18) cf9 d97_38 (by decide) w713 hs hp ha h
theorem s97_42 {S : Nat × (Nat → Int32)} {L : List (Option Value)} {st : List Value} {n : Nat} {Q : xQ} {μ : xM} {a : Nat} (hl : L[0]? = some (some (.ref a))) (h : x_V S 97 43 L (.ref a :: st) μ n Q) : x_V S 97 42 L (st) μ n Q := x_aload_n d97_42 hl h
theorem s97_42N {S : Nat × (Nat → Int32)} {L : List (Option Value)} {st : List Value} {n : Nat} {Q : xQ} {μ : xM} (hl : L[0]? = some (some .null)) (h : x_V S 97 43 L (.null :: st) μ n Q) : x_V S 97 42 L st μ n Q := x_aload_nN d97_42 hl h
theorem s97_43 {S : Nat × (Nat → Int32)} {L : List (Option Value)} {st : List Value} {n : Nat} {Q : xQ} {μ : xM} {v : Value} (hc : v.category = 1) (h : x_V S 97 44 L (v :: v :: st) μ n Q) : x_V S 97 43 L (v :: st) μ n Q := x_dup hc d97_43 h
theorem s97_44 {S : Nat × (Nat → Int32)} {L : List (Option Value)} {st : List Value} {n : Nat} {Q : xQ} {g : Nat → Nat → Int} {a : Nat} (hs : x_sh a = (9, 39)) (hp : x_pt a 15 = none) (ha : a ≠ x_out) (h : x_V S 97 47 L (.int (I (g a 15)) :: st) (x_vm g) n Q) : x_V S 97 44 L (.ref a :: st) (x_vm g) n Q := v_get (i := 15) cf9 d97_44 (by decide) w710 hs hp ha h
theorem s97_47 {S : Nat × (Nat → Int32)} {L : List (Option Value)} {st : List Value} {n : Nat} {Q : xQ} {μ : xM}  (h : x_V S 97 48 L (.int (I 1) :: st) μ n Q) : x_V S 97 47 L (st) μ n Q := x_iconst (by decide +kernel) d97_47 h
theorem s97_48 {S : Nat × (Nat → Int32)} {L : List (Option Value)} {st : List Value} {n : Nat} {Q : xQ} {μ : xM} {x y : Int} (h : x_V S 97 49 L (.int (I (x + y)) :: st) μ n Q) : x_V S 97 48 L (.int (I y) :: .int (I x) :: st) μ n Q := v_iadd d97_48 h
theorem s97_49 {S : Nat × (Nat → Int32)} {L : List (Option Value)} {st : List Value} {n : Nat} {Q : xQ} {g : Nat → Nat → Int} {a : Nat} {x : Int} (hs : x_sh a = (9, 39)) (hp : x_pt a 15 = none) (ha : a ≠ x_out) (h : x_V S 97 52 L (st) (x_vm (x_uf g a 15 x)) n Q) : x_V S 97 49 L (.int (I x) :: .ref a :: st) (x_vm g) n Q := v_put (i := 15) cf9 d97_49 (by decide) rfl w710 hs rfl hp ha h
theorem s97_52 {S : Nat × (Nat → Int32)} {L : List (Option Value)} {st : List Value} {n : Nat} {Q : xQ} {μ : xM} {a : Nat} (hl : L[0]? = some (some (.ref a))) (h : x_V S 97 53 L (.ref a :: st) μ n Q) : x_V S 97 52 L (st) μ n Q := x_aload_n d97_52 hl h
theorem s97_52N {S : Nat × (Nat → Int32)} {L : List (Option Value)} {st : List Value} {n : Nat} {Q : xQ} {μ : xM} (hl : L[0]? = some (some .null)) (h : x_V S 97 53 L (.null :: st) μ n Q) : x_V S 97 52 L st μ n Q := x_aload_nN d97_52 hl h
theorem s97_53 {S : Nat × (Nat → Int32)} {L : List (Option Value)} {st : List Value} {n : Nat} {Q : xQ} {μ : xM} {a : Nat} (hl : L[0]? = some (some (.ref a))) (h : x_V S 97 54 L (.ref a :: st) μ n Q) : x_V S 97 53 L (st) μ n Q := x_aload_n d97_53 hl h
theorem s97_53N {S : Nat × (Nat → Int32)} {L : List (Option Value)} {st : List Value} {n : Nat} {Q : xQ} {μ : xM} (hl : L[0]? = some (some .null)) (h : x_V S 97 54 L (.null :: st) μ n Q) : x_V S 97 53 L st μ n Q := x_aload_nN d97_53 hl h
theorem s97_54 {S : Nat × (Nat → Int32)} {L : List (Option Value)} {st : List Value} {n : Nat} {Q : xQ} {g : Nat → Nat → Int} {a : Nat} (hs : x_sh a = (9, 39)) (hp : x_pt a 22 = none) (ha : a ≠ x_out) (h : x_V S 97 57 L (.int (I (g a 22)) :: st) (x_vm g) n Q) : x_V S 97 54 L (.ref a :: st) (x_vm g) n Q := v_get (i := 22) cf9 d97_54 (by decide) w717 hs hp ha h
theorem s97_57 {S : Nat × (Nat → Int32)} {L : List (Option Value)} {st : List Value} {n : Nat} {Q : xQ} {g : Nat → Nat → Int} {a : Nat} {x : Int} (hs : x_sh a = (9, 39)) (hp : x_pt a 24 = none) (ha : a ≠ x_out) (h : x_V S 97 60 L (st) (x_vm (x_uf g a 24 x)) n Q) : x_V S 97 57 L (.int (I x) :: .ref a :: st) (x_vm g) n Q := v_put (i := 24) cf9 d97_57 (by decide) rfl w719 hs rfl hp ha h
theorem s97_60 {S : Nat × (Nat → Int32)} {L : List (Option Value)} {st : List Value} {n : Nat} {Q : xQ} {μ : xM}  (h : Q (.inl none) μ n) : x_V S 97 60 L ([]) μ n Q := x_return d97_60 rfl h
