/-! 15.s-model4: decode rows and step rows of the reference; laid by a program. -/
theorem mC_118 : mC 118 = prog_12_method_36_code := rfl
theorem d118_0 : decode (mC 118) 0 = .ok (.aload_n 0, 1) := by rw [mC_118]; decide +kernel
theorem d118_1 : decode (mC 118) 1 = .ok (.aload_n 0, 1) := by rw [mC_118]; decide +kernel
theorem d118_2 : decode (mC 118) 2 = .ok (.getfield 28, 3) := by rw [mC_118]; decide +kernel
theorem d118_5 : decode (mC 118) 5 = .ok (.aload_n 0, 1) := by rw [mC_118]; decide +kernel
theorem d118_6 : decode (mC 118) 6 = .ok (.getfield 128, 3) := by rw [mC_118]; decide +kernel
theorem d118_9 : decode (mC 118) 9 = .ok (.if_icmp .gt 10, 3) := by rw [mC_118]; decide +kernel
theorem d118_12 : decode (mC 118) 12 = .ok (.aload_n 0, 1) := by rw [mC_118]; decide +kernel
theorem d118_13 : decode (mC 118) 13 = .ok (.getfield 118, 3) := by rw [mC_118]; decide +kernel
theorem d118_16 : decode (mC 118) 16 = .ok (.ifCond .ne 7, 3) := by rw [mC_118]; decide +kernel
theorem d118_19 : decode (mC 118) 19 = .ok (.iconst 0, 1) := by rw [mC_118]; decide +kernel
theorem d118_20 : decode (mC 118) 20 = .ok (.goto 7, 3) := by rw [mC_118]; decide +kernel
theorem d118_23 : decode (mC 118) 23 = .ok (.aload_n 0, 1) := by rw [mC_118]; decide +kernel
theorem d118_24 : decode (mC 118) 24 = .ok (.getfield 128, 3) := by rw [mC_118]; decide +kernel
theorem d118_27 : decode (mC 118) 27 = .ok (.putfield 128, 3) := by rw [mC_118]; decide +kernel
theorem d118_30 : decode (mC 118) 30 = .ok (.return_, 1) := by rw [mC_118]; decide +kernel
theorem s118_0 {S : Nat × (Nat → Int32)} {L : List (Option Value)} {st : List Value} {n : Nat} {Q : xQ} {μ : xM} {a : Nat} (hl : L[0]? = some (some (.ref a))) (h : x_V S 118 1 L (.ref a :: st) μ n Q) : x_V S 118 0 L (st) μ n Q := x_aload_n d118_0 hl h
theorem s118_0N {S : Nat × (Nat → Int32)} {L : List (Option Value)} {st : List Value} {n : Nat} {Q : xQ} {μ : xM} (hl : L[0]? = some (some .null)) (h : x_V S 118 1 L (.null :: st) μ n Q) : x_V S 118 0 L st μ n Q := x_aload_nN d118_0 hl h
theorem s118_1 {S : Nat × (Nat → Int32)} {L : List (Option Value)} {st : List Value} {n : Nat} {Q : xQ} {μ : xM} {a : Nat} (hl : L[0]? = some (some (.ref a))) (h : x_V S 118 2 L (.ref a :: st) μ n Q) : x_V S 118 1 L (st) μ n Q := x_aload_n d118_1 hl h
theorem s118_1N {S : Nat × (Nat → Int32)} {L : List (Option Value)} {st : List Value} {n : Nat} {Q : xQ} {μ : xM} (hl : L[0]? = some (some .null)) (h : x_V S 118 2 L (.null :: st) μ n Q) : x_V S 118 1 L st μ n Q := x_aload_nN d118_1 hl h
theorem s118_2 {S : Nat × (Nat → Int32)} {L : List (Option Value)} {st : List Value} {n : Nat} {Q : xQ} {g : Nat → Nat → Int} {a : Nat} (hs : x_sh a = (9, 39)) (hp : x_pt a 20 = none) (ha : a ≠ x_out) (h : x_V S 118 5 L (.int (I (g a 20)) :: st) (x_vm g) n Q) : x_V S 118 2 L (.ref a :: st) (x_vm g) n Q := v_get (i := 20) cf9 d118_2 (by decide) w715 hs hp ha h
theorem s118_5 {S : Nat × (Nat → Int32)} {L : List (Option Value)} {st : List Value} {n : Nat} {Q : xQ} {μ : xM} {a : Nat} (hl : L[0]? = some (some (.ref a))) (h : x_V S 118 6 L (.ref a :: st) μ n Q) : x_V S 118 5 L (st) μ n Q := x_aload_n d118_5 hl h
theorem s118_5N {S : Nat × (Nat → Int32)} {L : List (Option Value)} {st : List Value} {n : Nat} {Q : xQ} {μ : xM} (hl : L[0]? = some (some .null)) (h : x_V S 118 6 L (.null :: st) μ n Q) : x_V S 118 5 L st μ n Q := x_aload_nN d118_5 hl h
theorem s118_6 {S : Nat × (Nat → Int32)} {L : List (Option Value)} {st : List Value} {n : Nat} {Q : xQ} {g : Nat → Nat → Int} {a : Nat} (hs : x_sh a = (9, 39)) (hp : x_pt a 26 = none) (ha : a ≠ x_out) (h : x_V S 118 9 L (.int (I (g a 26)) :: st) (x_vm g) n Q) : x_V S 118 6 L (.ref a :: st) (x_vm g) n Q := v_get (i := 26) cf9 d118_6 (by decide) w721 hs hp ha h
theorem s118_9 {S : Nat × (Nat → Int32)} {L : List (Option Value)} {st : List Value} {n : Nat} {Q : xQ} {μ : xM} {x y : Int} (hx : ib x) (hy : ib y) (kt : y < x → x_V S 118 19 L (st) μ n Q) (kf : x ≤ y → x_V S 118 12 L (st) μ n Q) : x_V S 118 9 L (.int (I y) :: .int (I x) :: st) μ n Q := v_icmp_gt d118_9 (by decide) hx hy kt kf
theorem s118_12 {S : Nat × (Nat → Int32)} {L : List (Option Value)} {st : List Value} {n : Nat} {Q : xQ} {μ : xM} {a : Nat} (hl : L[0]? = some (some (.ref a))) (h : x_V S 118 13 L (.ref a :: st) μ n Q) : x_V S 118 12 L (st) μ n Q := x_aload_n d118_12 hl h
theorem s118_12N {S : Nat × (Nat → Int32)} {L : List (Option Value)} {st : List Value} {n : Nat} {Q : xQ} {μ : xM} (hl : L[0]? = some (some .null)) (h : x_V S 118 13 L (.null :: st) μ n Q) : x_V S 118 12 L st μ n Q := x_aload_nN d118_12 hl h
theorem s118_13 {S : Nat × (Nat → Int32)} {L : List (Option Value)} {st : List Value} {n : Nat} {Q : xQ} {g : Nat → Nat → Int} {a : Nat} (hs : x_sh a = (9, 39)) (hp : x_pt a 19 = none) (ha : a ≠ x_out) (h : x_V S 118 16 L (.int (I (g a 19)) :: st) (x_vm g) n Q) : x_V S 118 13 L (.ref a :: st) (x_vm g) n Q := v_get (i := 19) cf9 d118_13 (by decide) w714 hs hp ha h
theorem s118_16 {S : Nat × (Nat → Int32)} {L : List (Option Value)} {st : List Value} {n : Nat} {Q : xQ} {μ : xM} {x : Int} (hx : ib x) (kt : x ≠ 0 → x_V S 118 23 L (st) μ n Q) (kf : x = 0 → x_V S 118 19 L (st) μ n Q) : x_V S 118 16 L (.int (I x) :: st) μ n Q := v_if_ne d118_16 (by decide) hx kt kf
theorem s118_19 {S : Nat × (Nat → Int32)} {L : List (Option Value)} {st : List Value} {n : Nat} {Q : xQ} {μ : xM}  (h : x_V S 118 20 L (.int (I 0) :: st) μ n Q) : x_V S 118 19 L (st) μ n Q := x_iconst (by decide +kernel) d118_19 h
theorem s118_20 {S : Nat × (Nat → Int32)} {L : List (Option Value)} {st : List Value} {n : Nat} {Q : xQ} {μ : xM}  (h : x_V S 118 27 L (st) μ n Q) : x_V S 118 20 L (st) μ n Q := x_goto (tgt := 27) (by decide) d118_20 h
theorem s118_23 {S : Nat × (Nat → Int32)} {L : List (Option Value)} {st : List Value} {n : Nat} {Q : xQ} {μ : xM} {a : Nat} (hl : L[0]? = some (some (.ref a))) (h : x_V S 118 24 L (.ref a :: st) μ n Q) : x_V S 118 23 L (st) μ n Q := x_aload_n d118_23 hl h
theorem s118_23N {S : Nat × (Nat → Int32)} {L : List (Option Value)} {st : List Value} {n : Nat} {Q : xQ} {μ : xM} (hl : L[0]? = some (some .null)) (h : x_V S 118 24 L (.null :: st) μ n Q) : x_V S 118 23 L st μ n Q := x_aload_nN d118_23 hl h
theorem s118_24 {S : Nat × (Nat → Int32)} {L : List (Option Value)} {st : List Value} {n : Nat} {Q : xQ} {g : Nat → Nat → Int} {a : Nat} (hs : x_sh a = (9, 39)) (hp : x_pt a 26 = none) (ha : a ≠ x_out) (h : x_V S 118 27 L (.int (I (g a 26)) :: st) (x_vm g) n Q) : x_V S 118 24 L (.ref a :: st) (x_vm g) n Q := v_get (i := 26) cf9 d118_24 (by decide) w721 hs hp ha h
theorem s118_27 {S : Nat × (Nat → Int32)} {L : List (Option Value)} {st : List Value} {n : Nat} {Q : xQ} {g : Nat → Nat → Int} {a : Nat} {x : Int} (hs : x_sh a = (9, 39)) (hp : x_pt a 26 = none) (ha : a ≠ x_out) (h : x_V S 118 30 L (st) (x_vm (x_uf g a 26 x)) n Q) : x_V S 118 27 L (.int (I x) :: .ref a :: st) (x_vm g) n Q := v_put (i := 26) cf9 d118_27 (by decide) rfl w721 hs rfl hp ha h
theorem s118_30 {S : Nat × (Nat → Int32)} {L : List (Option Value)} {st : List Value} {n : Nat} {Q : xQ} {μ : xM}  (h : Q (.inl none) μ n) : x_V S 118 30 L ([]) μ n Q := x_return d118_30 rfl h
theorem mC_119 : mC 119 = prog_12_method_37_code := rfl
theorem d119_0 : decode (mC 119) 0 = .ok (.aload_n 0, 1) := by rw [mC_119]; decide +kernel
theorem d119_1 : decode (mC 119) 1 = .ok (.invokevirtual 214, 3) := by rw [mC_119]; decide +kernel
theorem d119_4 : decode (mC 119) 4 = .ok (.ifCond .ne 5, 3) := by rw [mC_119]; decide +kernel
theorem d119_7 : decode (mC 119) 7 = .ok (.iconst 0, 1) := by rw [mC_119]; decide +kernel
theorem d119_8 : decode (mC 119) 8 = .ok (.ireturn, 1) := by rw [mC_119]; decide +kernel
theorem d119_9 : decode (mC 119) 9 = .ok (.aload_n 0, 1) := by rw [mC_119]; decide +kernel
theorem d119_10 : decode (mC 119) 10 = .ok (.getfield 118, 3) := by rw [mC_119]; decide +kernel
theorem d119_13 : decode (mC 119) 13 = .ok (.ifCond .ne 14, 3) := by rw [mC_119]; decide +kernel
theorem d119_16 : decode (mC 119) 16 = .ok (.aload_n 0, 1) := by rw [mC_119]; decide +kernel
theorem d119_17 : decode (mC 119) 17 = .ok (.getfield 168, 3) := by rw [mC_119]; decide +kernel
theorem d119_20 : decode (mC 119) 20 = .ok (.bipush 65, 2) := by rw [mC_119]; decide +kernel
theorem d119_22 : decode (mC 119) 22 = .ok (.if_icmp .eq 5, 3) := by rw [mC_119]; decide +kernel
theorem d119_25 : decode (mC 119) 25 = .ok (.iconst 1, 1) := by rw [mC_119]; decide +kernel
theorem d119_26 : decode (mC 119) 26 = .ok (.ireturn, 1) := by rw [mC_119]; decide +kernel
theorem d119_27 : decode (mC 119) 27 = .ok (.aload_n 0, 1) := by rw [mC_119]; decide +kernel
theorem d119_28 : decode (mC 119) 28 = .ok (.aload_n 0, 1) := by rw [mC_119]; decide +kernel
theorem d119_29 : decode (mC 119) 29 = .ok (.getfield 112, 3) := by rw [mC_119]; decide +kernel
theorem d119_32 : decode (mC 119) 32 = .ok (.putfield 217, 3) := by rw [mC_119]; decide +kernel
theorem d119_35 : decode (mC 119) 35 = .ok (.aload_n 0, 1) := by rw [mC_119]; decide +kernel
theorem d119_36 : decode (mC 119) 36 = .ok (.getfield 168, 3) := by rw [mC_119]; decide +kernel
theorem d119_39 : decode (mC 119) 39 = .ok (.bipush 52, 2) := by rw [mC_119]; decide +kernel
theorem d119_41 : decode (mC 119) 41 = .ok (.if_icmp .ne 35, 3) := by rw [mC_119]; decide +kernel
theorem d119_44 : decode (mC 119) 44 = .ok (.aload_n 0, 1) := by rw [mC_119]; decide +kernel
theorem d119_45 : decode (mC 119) 45 = .ok (.getfield 180, 3) := by rw [mC_119]; decide +kernel
theorem d119_48 : decode (mC 119) 48 = .ok (.bipush 78, 2) := by rw [mC_119]; decide +kernel
theorem d119_50 : decode (mC 119) 50 = .ok (.if_icmp .ne 26, 3) := by rw [mC_119]; decide +kernel
theorem d119_53 : decode (mC 119) 53 = .ok (.aload_n 0, 1) := by rw [mC_119]; decide +kernel
theorem d119_54 : decode (mC 119) 54 = .ok (.getfield 177, 3) := by rw [mC_119]; decide +kernel
theorem d119_57 : decode (mC 119) 57 = .ok (.aload_n 0, 1) := by rw [mC_119]; decide +kernel
theorem d119_58 : decode (mC 119) 58 = .ok (.getfield 28, 3) := by rw [mC_119]; decide +kernel
theorem d119_61 : decode (mC 119) 61 = .ok (.if_icmp .gt 5, 3) := by rw [mC_119]; decide +kernel
theorem d119_64 : decode (mC 119) 64 = .ok (.iconst 1, 1) := by rw [mC_119]; decide +kernel
theorem d119_65 : decode (mC 119) 65 = .ok (.ireturn, 1) := by rw [mC_119]; decide +kernel
theorem d119_66 : decode (mC 119) 66 = .ok (.aload_n 0, 1) := by rw [mC_119]; decide +kernel
theorem d119_67 : decode (mC 119) 67 = .ok (.aload_n 0, 1) := by rw [mC_119]; decide +kernel
theorem d119_68 : decode (mC 119) 68 = .ok (.getfield 177, 3) := by rw [mC_119]; decide +kernel
theorem d119_71 : decode (mC 119) 71 = .ok (.putfield 28, 3) := by rw [mC_119]; decide +kernel
theorem d119_74 : decode (mC 119) 74 = .ok (.iconst 2, 1) := by rw [mC_119]; decide +kernel
theorem d119_75 : decode (mC 119) 75 = .ok (.ireturn, 1) := by rw [mC_119]; decide +kernel
theorem d119_76 : decode (mC 119) 76 = .ok (.aload_n 0, 1) := by rw [mC_119]; decide +kernel
theorem d119_77 : decode (mC 119) 77 = .ok (.getfield 171, 3) := by rw [mC_119]; decide +kernel
theorem d119_80 : decode (mC 119) 80 = .ok (.aload_n 0, 1) := by rw [mC_119]; decide +kernel
theorem d119_81 : decode (mC 119) 81 = .ok (.getfield 28, 3) := by rw [mC_119]; decide +kernel
theorem d119_84 : decode (mC 119) 84 = .ok (.if_icmp .ge 18, 3) := by rw [mC_119]; decide +kernel
theorem d119_87 : decode (mC 119) 87 = .ok (.aload_n 0, 1) := by rw [mC_119]; decide +kernel
theorem d119_88 : decode (mC 119) 88 = .ok (.getfield 174, 3) := by rw [mC_119]; decide +kernel
theorem d119_91 : decode (mC 119) 91 = .ok (.ifCond .eq 5, 3) := by rw [mC_119]; decide +kernel
theorem d119_94 : decode (mC 119) 94 = .ok (.iconst 1, 1) := by rw [mC_119]; decide +kernel
theorem d119_95 : decode (mC 119) 95 = .ok (.ireturn, 1) := by rw [mC_119]; decide +kernel
theorem d119_96 : decode (mC 119) 96 = .ok (.aload_n 0, 1) := by rw [mC_119]; decide +kernel
theorem d119_97 : decode (mC 119) 97 = .ok (.invokevirtual 220, 3) := by rw [mC_119]; decide +kernel
theorem d119_100 : decode (mC 119) 100 = .ok (.iconst 4, 1) := by rw [mC_119]; decide +kernel
theorem d119_101 : decode (mC 119) 101 = .ok (.ireturn, 1) := by rw [mC_119]; decide +kernel
theorem d119_102 : decode (mC 119) 102 = .ok (.aload_n 0, 1) := by rw [mC_119]; decide +kernel
theorem d119_103 : decode (mC 119) 103 = .ok (.getfield 118, 3) := by rw [mC_119]; decide +kernel
theorem d119_106 : decode (mC 119) 106 = .ok (.ifCond .ne 26, 3) := by rw [mC_119]; decide +kernel
theorem d119_109 : decode (mC 119) 109 = .ok (.aload_n 0, 1) := by rw [mC_119]; decide +kernel
theorem d119_110 : decode (mC 119) 110 = .ok (.iconst 1, 1) := by rw [mC_119]; decide +kernel
theorem d119_111 : decode (mC 119) 111 = .ok (.putfield 118, 3) := by rw [mC_119]; decide +kernel
theorem d119_114 : decode (mC 119) 114 = .ok (.aload_n 0, 1) := by rw [mC_119]; decide +kernel
theorem d119_115 : decode (mC 119) 115 = .ok (.iconst 0, 1) := by rw [mC_119]; decide +kernel
theorem d119_116 : decode (mC 119) 116 = .ok (.putfield 128, 3) := by rw [mC_119]; decide +kernel
theorem d119_119 : decode (mC 119) 119 = .ok (.aload_n 0, 1) := by rw [mC_119]; decide +kernel
theorem d119_120 : decode (mC 119) 120 = .ok (.bipush 65, 2) := by rw [mC_119]; decide +kernel
theorem d119_122 : decode (mC 119) 122 = .ok (.aload_n 0, 1) := by rw [mC_119]; decide +kernel
theorem d119_123 : decode (mC 119) 123 = .ok (.getfield 177, 3) := by rw [mC_119]; decide +kernel
theorem d119_126 : decode (mC 119) 126 = .ok (.iconst 0, 1) := by rw [mC_119]; decide +kernel
theorem d119_127 : decode (mC 119) 127 = .ok (.iconst 0, 1) := by rw [mC_119]; decide +kernel
theorem d119_128 : decode (mC 119) 128 = .ok (.iconst 0, 1) := by rw [mC_119]; decide +kernel
theorem d119_129 : decode (mC 119) 129 = .ok (.invokevirtual 124, 3) := by rw [mC_119]; decide +kernel
theorem d119_132 : decode (mC 119) 132 = .ok (.aload_n 0, 1) := by rw [mC_119]; decide +kernel
theorem d119_133 : decode (mC 119) 133 = .ok (.getfield 171, 3) := by rw [mC_119]; decide +kernel
theorem d119_136 : decode (mC 119) 136 = .ok (.aload_n 0, 1) := by rw [mC_119]; decide +kernel
theorem d119_137 : decode (mC 119) 137 = .ok (.getfield 28, 3) := by rw [mC_119]; decide +kernel
theorem d119_140 : decode (mC 119) 140 = .ok (.if_icmp .le 90, 3) := by rw [mC_119]; decide +kernel
theorem d119_143 : decode (mC 119) 143 = .ok (.aload_n 0, 1) := by rw [mC_119]; decide +kernel
theorem d119_144 : decode (mC 119) 144 = .ok (.getfield 168, 3) := by rw [mC_119]; decide +kernel
theorem d119_147 : decode (mC 119) 147 = .ok (.bipush 50, 2) := by rw [mC_119]; decide +kernel
theorem d119_149 : decode (mC 119) 149 = .ok (.if_icmp .ne 15, 3) := by rw [mC_119]; decide +kernel
theorem d119_152 : decode (mC 119) 152 = .ok (.aload_n 0, 1) := by rw [mC_119]; decide +kernel
theorem d119_153 : decode (mC 119) 153 = .ok (.aload_n 0, 1) := by rw [mC_119]; decide +kernel
theorem d119_154 : decode (mC 119) 154 = .ok (.getfield 177, 3) := by rw [mC_119]; decide +kernel
theorem d119_157 : decode (mC 119) 157 = .ok (.aload_n 0, 1) := by rw [mC_119]; decide +kernel
theorem d119_158 : decode (mC 119) 158 = .ok (.getfield 180, 3) := by rw [mC_119]; decide +kernel
theorem d119_161 : decode (mC 119) 161 = .ok (.invokevirtual 223, 3) := by rw [mC_119]; decide +kernel
theorem d119_164 : decode (mC 119) 164 = .ok (.aload_n 0, 1) := by rw [mC_119]; decide +kernel
theorem d119_165 : decode (mC 119) 165 = .ok (.getfield 168, 3) := by rw [mC_119]; decide +kernel
theorem d119_168 : decode (mC 119) 168 = .ok (.bipush 53, 2) := by rw [mC_119]; decide +kernel
theorem d119_170 : decode (mC 119) 170 = .ok (.if_icmp .ne 7, 3) := by rw [mC_119]; decide +kernel
theorem d119_173 : decode (mC 119) 173 = .ok (.aload_n 0, 1) := by rw [mC_119]; decide +kernel
theorem d119_174 : decode (mC 119) 174 = .ok (.invokevirtual 220, 3) := by rw [mC_119]; decide +kernel
theorem d119_177 : decode (mC 119) 177 = .ok (.aload_n 0, 1) := by rw [mC_119]; decide +kernel
theorem d119_178 : decode (mC 119) 178 = .ok (.getfield 118, 3) := by rw [mC_119]; decide +kernel
theorem d119_181 : decode (mC 119) 181 = .ok (.ifCond .eq 14, 3) := by rw [mC_119]; decide +kernel
theorem d119_184 : decode (mC 119) 184 = .ok (.aload_n 0, 1) := by rw [mC_119]; decide +kernel
theorem d119_185 : decode (mC 119) 185 = .ok (.getfield 128, 3) := by rw [mC_119]; decide +kernel
theorem d119_188 : decode (mC 119) 188 = .ok (.ifCond .ne 7, 3) := by rw [mC_119]; decide +kernel
theorem d119_191 : decode (mC 119) 191 = .ok (.aload_n 0, 1) := by rw [mC_119]; decide +kernel
theorem d119_192 : decode (mC 119) 192 = .ok (.invokevirtual 226, 3) := by rw [mC_119]; decide +kernel
theorem d119_195 : decode (mC 119) 195 = .ok (.aload_n 0, 1) := by rw [mC_119]; decide +kernel
theorem d119_196 : decode (mC 119) 196 = .ok (.aload_n 0, 1) := by rw [mC_119]; decide +kernel
theorem d119_197 : decode (mC 119) 197 = .ok (.getfield 118, 3) := by rw [mC_119]; decide +kernel
theorem d119_200 : decode (mC 119) 200 = .ok (.ifCond .eq 21, 3) := by rw [mC_119]; decide +kernel
theorem d119_203 : decode (mC 119) 203 = .ok (.aload_n 0, 1) := by rw [mC_119]; decide +kernel
theorem d119_204 : decode (mC 119) 204 = .ok (.getfield 171, 3) := by rw [mC_119]; decide +kernel
theorem d119_207 : decode (mC 119) 207 = .ok (.aload_n 0, 1) := by rw [mC_119]; decide +kernel
theorem d119_208 : decode (mC 119) 208 = .ok (.getfield 128, 3) := by rw [mC_119]; decide +kernel
theorem d119_211 : decode (mC 119) 211 = .ok (.if_icmp .le 10, 3) := by rw [mC_119]; decide +kernel
theorem d119_214 : decode (mC 119) 214 = .ok (.aload_n 0, 1) := by rw [mC_119]; decide +kernel
theorem d119_215 : decode (mC 119) 215 = .ok (.getfield 171, 3) := by rw [mC_119]; decide +kernel
theorem d119_218 : decode (mC 119) 218 = .ok (.goto 7, 3) := by rw [mC_119]; decide +kernel
theorem d119_221 : decode (mC 119) 221 = .ok (.aload_n 0, 1) := by rw [mC_119]; decide +kernel
theorem d119_222 : decode (mC 119) 222 = .ok (.getfield 128, 3) := by rw [mC_119]; decide +kernel
theorem d119_225 : decode (mC 119) 225 = .ok (.putfield 128, 3) := by rw [mC_119]; decide +kernel
theorem d119_228 : decode (mC 119) 228 = .ok (.iconst 3, 1) := by rw [mC_119]; decide +kernel
theorem d119_229 : decode (mC 119) 229 = .ok (.ireturn, 1) := by rw [mC_119]; decide +kernel
theorem d119_230 : decode (mC 119) 230 = .ok (.aload_n 0, 1) := by rw [mC_119]; decide +kernel
theorem d119_231 : decode (mC 119) 231 = .ok (.dup, 1) := by rw [mC_119]; decide +kernel
theorem d119_232 : decode (mC 119) 232 = .ok (.getfield 28, 3) := by rw [mC_119]; decide +kernel
theorem d119_235 : decode (mC 119) 235 = .ok (.iconst 1, 1) := by rw [mC_119]; decide +kernel
theorem d119_236 : decode (mC 119) 236 = .ok (.iadd, 1) := by rw [mC_119]; decide +kernel
theorem d119_237 : decode (mC 119) 237 = .ok (.putfield 28, 3) := by rw [mC_119]; decide +kernel
theorem d119_240 : decode (mC 119) 240 = .ok (.aload_n 0, 1) := by rw [mC_119]; decide +kernel
theorem d119_241 : decode (mC 119) 241 = .ok (.getfield 168, 3) := by rw [mC_119]; decide +kernel
theorem d119_244 : decode (mC 119) 244 = .ok (.bipush 49, 2) := by rw [mC_119]; decide +kernel
theorem d119_246 : decode (mC 119) 246 = .ok (.if_icmp .ne 16, 3) := by rw [mC_119]; decide +kernel
theorem d119_249 : decode (mC 119) 249 = .ok (.aload_n 0, 1) := by rw [mC_119]; decide +kernel
theorem d119_250 : decode (mC 119) 250 = .ok (.bipush 48, 2) := by rw [mC_119]; decide +kernel
theorem d119_252 : decode (mC 119) 252 = .ok (.aload_n 0, 1) := by rw [mC_119]; decide +kernel
theorem d119_253 : decode (mC 119) 253 = .ok (.getfield 177, 3) := by rw [mC_119]; decide +kernel
theorem d119_256 : decode (mC 119) 256 = .ok (.iconst 0, 1) := by rw [mC_119]; decide +kernel
theorem d119_257 : decode (mC 119) 257 = .ok (.iconst 0, 1) := by rw [mC_119]; decide +kernel
theorem d119_258 : decode (mC 119) 258 = .ok (.iconst 0, 1) := by rw [mC_119]; decide +kernel
theorem d119_259 : decode (mC 119) 259 = .ok (.invokevirtual 124, 3) := by rw [mC_119]; decide +kernel
theorem d119_262 : decode (mC 119) 262 = .ok (.aload_n 0, 1) := by rw [mC_119]; decide +kernel
theorem d119_263 : decode (mC 119) 263 = .ok (.getfield 168, 3) := by rw [mC_119]; decide +kernel
theorem d119_266 : decode (mC 119) 266 = .ok (.bipush 50, 2) := by rw [mC_119]; decide +kernel
theorem d119_268 : decode (mC 119) 268 = .ok (.if_icmp .ne 15, 3) := by rw [mC_119]; decide +kernel
theorem d119_271 : decode (mC 119) 271 = .ok (.aload_n 0, 1) := by rw [mC_119]; decide +kernel
theorem d119_272 : decode (mC 119) 272 = .ok (.aload_n 0, 1) := by rw [mC_119]; decide +kernel
theorem d119_273 : decode (mC 119) 273 = .ok (.getfield 177, 3) := by rw [mC_119]; decide +kernel
theorem d119_276 : decode (mC 119) 276 = .ok (.aload_n 0, 1) := by rw [mC_119]; decide +kernel
theorem d119_277 : decode (mC 119) 277 = .ok (.getfield 180, 3) := by rw [mC_119]; decide +kernel
theorem d119_280 : decode (mC 119) 280 = .ok (.invokevirtual 223, 3) := by rw [mC_119]; decide +kernel
theorem d119_283 : decode (mC 119) 283 = .ok (.aload_n 0, 1) := by rw [mC_119]; decide +kernel
theorem d119_284 : decode (mC 119) 284 = .ok (.getfield 168, 3) := by rw [mC_119]; decide +kernel
theorem d119_287 : decode (mC 119) 287 = .ok (.bipush 52, 2) := by rw [mC_119]; decide +kernel
theorem d119_289 : decode (mC 119) 289 = .ok (.if_icmp .ne 22, 3) := by rw [mC_119]; decide +kernel
theorem d119_292 : decode (mC 119) 292 = .ok (.aload_n 0, 1) := by rw [mC_119]; decide +kernel
theorem d119_293 : decode (mC 119) 293 = .ok (.getfield 177, 3) := by rw [mC_119]; decide +kernel
theorem d119_296 : decode (mC 119) 296 = .ok (.aload_n 0, 1) := by rw [mC_119]; decide +kernel
theorem d119_297 : decode (mC 119) 297 = .ok (.getfield 28, 3) := by rw [mC_119]; decide +kernel
theorem d119_300 : decode (mC 119) 300 = .ok (.if_icmp .le 11, 3) := by rw [mC_119]; decide +kernel
theorem d119_303 : decode (mC 119) 303 = .ok (.aload_n 0, 1) := by rw [mC_119]; decide +kernel
theorem d119_304 : decode (mC 119) 304 = .ok (.aload_n 0, 1) := by rw [mC_119]; decide +kernel
theorem d119_305 : decode (mC 119) 305 = .ok (.getfield 177, 3) := by rw [mC_119]; decide +kernel
theorem d119_308 : decode (mC 119) 308 = .ok (.putfield 28, 3) := by rw [mC_119]; decide +kernel
theorem d119_311 : decode (mC 119) 311 = .ok (.aload_n 0, 1) := by rw [mC_119]; decide +kernel
theorem d119_312 : decode (mC 119) 312 = .ok (.getfield 168, 3) := by rw [mC_119]; decide +kernel
theorem d119_315 : decode (mC 119) 315 = .ok (.bipush 53, 2) := by rw [mC_119]; decide +kernel
theorem d119_317 : decode (mC 119) 317 = .ok (.if_icmp .ne 7, 3) := by rw [mC_119]; decide +kernel
theorem d119_320 : decode (mC 119) 320 = .ok (.aload_n 0, 1) := by rw [mC_119]; decide +kernel
theorem d119_321 : decode (mC 119) 321 = .ok (.invokevirtual 220, 3) := by rw [mC_119]; decide +kernel
theorem d119_324 : decode (mC 119) 324 = .ok (.aload_n 0, 1) := by rw [mC_119]; decide +kernel
theorem d119_325 : decode (mC 119) 325 = .ok (.getfield 168, 3) := by rw [mC_119]; decide +kernel
theorem d119_328 : decode (mC 119) 328 = .ok (.bipush 68, 2) := by rw [mC_119]; decide +kernel
theorem d119_330 : decode (mC 119) 330 = .ok (.if_icmp .eq 21, 3) := by rw [mC_119]; decide +kernel
theorem d119_333 : decode (mC 119) 333 = .ok (.aload_n 0, 1) := by rw [mC_119]; decide +kernel
theorem d119_334 : decode (mC 119) 334 = .ok (.getfield 168, 3) := by rw [mC_119]; decide +kernel
theorem d119_337 : decode (mC 119) 337 = .ok (.bipush 70, 2) := by rw [mC_119]; decide +kernel
theorem d119_339 : decode (mC 119) 339 = .ok (.if_icmp .eq 12, 3) := by rw [mC_119]; decide +kernel
theorem d119_342 : decode (mC 119) 342 = .ok (.aload_n 0, 1) := by rw [mC_119]; decide +kernel
theorem d119_343 : decode (mC 119) 343 = .ok (.getfield 168, 3) := by rw [mC_119]; decide +kernel
theorem d119_346 : decode (mC 119) 346 = .ok (.bipush 71, 2) := by rw [mC_119]; decide +kernel
theorem d119_348 : decode (mC 119) 348 = .ok (.if_icmp .ne 7, 3) := by rw [mC_119]; decide +kernel
theorem d119_351 : decode (mC 119) 351 = .ok (.aload_n 0, 1) := by rw [mC_119]; decide +kernel
theorem d119_352 : decode (mC 119) 352 = .ok (.invokevirtual 229, 3) := by rw [mC_119]; decide +kernel
theorem d119_355 : decode (mC 119) 355 = .ok (.iconst 2, 1) := by rw [mC_119]; decide +kernel
theorem d119_356 : decode (mC 119) 356 = .ok (.ireturn, 1) := by rw [mC_119]; decide +kernel
theorem s119_0 {S : Nat × (Nat → Int32)} {L : List (Option Value)} {st : List Value} {n : Nat} {Q : xQ} {μ : xM} {a : Nat} (hl : L[0]? = some (some (.ref a))) (h : x_V S 119 1 L (.ref a :: st) μ n Q) : x_V S 119 0 L (st) μ n Q := x_aload_n d119_0 hl h
theorem s119_0N {S : Nat × (Nat → Int32)} {L : List (Option Value)} {st : List Value} {n : Nat} {Q : xQ} {μ : xM} (hl : L[0]? = some (some .null)) (h : x_V S 119 1 L (.null :: st) μ n Q) : x_V S 119 0 L st μ n Q := x_aload_nN d119_0 hl h
theorem s119_1 {S : Nat × (Nat → Int32)} {L : List (Option Value)} {st : List Value} {n : Nat} {Q : xQ} {μ : xM}  {a : Nat} (hs : x_sh a = (9, 39)) (hst : st.length ≤ 4) (h : x_V S 111 0 [some (.ref a), none, none, none, none, none] [] μ n (x_bk S 119 1 L st Q)) : x_V S 119 1 L (.ref a :: st) μ n Q := x_callV (k' := 111) (as := []) (na := 0) d119_1 ⟨w889, by decide +kernel, by decide, by decide, by decide, by decide, by decide⟩ cf9 w886 w888 wp33 (by decide +kernel) rfl hs (fun v hv => by
    cases hv) hst h
theorem s119_4 {S : Nat × (Nat → Int32)} {L : List (Option Value)} {st : List Value} {n : Nat} {Q : xQ} {μ : xM} {x : Int} (hx : ib x) (kt : x ≠ 0 → x_V S 119 9 L (st) μ n Q) (kf : x = 0 → x_V S 119 7 L (st) μ n Q) : x_V S 119 4 L (.int (I x) :: st) μ n Q := v_if_ne d119_4 (by decide) hx kt kf
theorem s119_7 {S : Nat × (Nat → Int32)} {L : List (Option Value)} {st : List Value} {n : Nat} {Q : xQ} {μ : xM}  (h : x_V S 119 8 L (.int (I 0) :: st) μ n Q) : x_V S 119 7 L (st) μ n Q := x_iconst (by decide +kernel) d119_7 h
theorem s119_8 {S : Nat × (Nat → Int32)} {L : List (Option Value)} {st : List Value} {n : Nat} {Q : xQ} {μ : xM} {x : Int32} (h : Q (.inl (some (.int x))) μ n) : x_V S 119 8 L (.int x :: []) μ n Q := x_ireturn d119_8 rfl rfl h
theorem s119_9 {S : Nat × (Nat → Int32)} {L : List (Option Value)} {st : List Value} {n : Nat} {Q : xQ} {μ : xM} {a : Nat} (hl : L[0]? = some (some (.ref a))) (h : x_V S 119 10 L (.ref a :: st) μ n Q) : x_V S 119 9 L (st) μ n Q := x_aload_n d119_9 hl h
theorem s119_9N {S : Nat × (Nat → Int32)} {L : List (Option Value)} {st : List Value} {n : Nat} {Q : xQ} {μ : xM} (hl : L[0]? = some (some .null)) (h : x_V S 119 10 L (.null :: st) μ n Q) : x_V S 119 9 L st μ n Q := x_aload_nN d119_9 hl h
theorem s119_10 {S : Nat × (Nat → Int32)} {L : List (Option Value)} {st : List Value} {n : Nat} {Q : xQ} {g : Nat → Nat → Int} {a : Nat} (hs : x_sh a = (9, 39)) (hp : x_pt a 19 = none) (ha : a ≠ x_out) (h : x_V S 119 13 L (.int (I (g a 19)) :: st) (x_vm g) n Q) : x_V S 119 10 L (.ref a :: st) (x_vm g) n Q := v_get (i := 19) cf9 d119_10 (by decide) w714 hs hp ha h
theorem s119_13 {S : Nat × (Nat → Int32)} {L : List (Option Value)} {st : List Value} {n : Nat} {Q : xQ} {μ : xM} {x : Int} (hx : ib x) (kt : x ≠ 0 → x_V S 119 27 L (st) μ n Q) (kf : x = 0 → x_V S 119 16 L (st) μ n Q) : x_V S 119 13 L (.int (I x) :: st) μ n Q := v_if_ne d119_13 (by decide) hx kt kf
theorem s119_16 {S : Nat × (Nat → Int32)} {L : List (Option Value)} {st : List Value} {n : Nat} {Q : xQ} {μ : xM} {a : Nat} (hl : L[0]? = some (some (.ref a))) (h : x_V S 119 17 L (.ref a :: st) μ n Q) : x_V S 119 16 L (st) μ n Q := x_aload_n d119_16 hl h
theorem s119_16N {S : Nat × (Nat → Int32)} {L : List (Option Value)} {st : List Value} {n : Nat} {Q : xQ} {μ : xM} (hl : L[0]? = some (some .null)) (h : x_V S 119 17 L (.null :: st) μ n Q) : x_V S 119 16 L st μ n Q := x_aload_nN d119_16 hl h
theorem s119_17 {S : Nat × (Nat → Int32)} {L : List (Option Value)} {st : List Value} {n : Nat} {Q : xQ} {g : Nat → Nat → Int} {a : Nat} (hs : x_sh a = (9, 39)) (hp : x_pt a 8 = none) (ha : a ≠ x_out) (h : x_V S 119 20 L (.int (I (g a 8)) :: st) (x_vm g) n Q) : x_V S 119 17 L (.ref a :: st) (x_vm g) n Q := v_get (i := 8) cf9 d119_17 (by decide) w703 hs hp ha h
theorem s119_20 {S : Nat × (Nat → Int32)} {L : List (Option Value)} {st : List Value} {n : Nat} {Q : xQ} {μ : xM}  (h : x_V S 119 22 L (.int (I 65) :: st) μ n Q) : x_V S 119 20 L (st) μ n Q := x_bipush (by decide +kernel) d119_20 h
theorem s119_22 {S : Nat × (Nat → Int32)} {L : List (Option Value)} {st : List Value} {n : Nat} {Q : xQ} {μ : xM} {x y : Int} (hx : ib x) (hy : ib y) (kt : x = y → x_V S 119 27 L (st) μ n Q) (kf : x ≠ y → x_V S 119 25 L (st) μ n Q) : x_V S 119 22 L (.int (I y) :: .int (I x) :: st) μ n Q := v_icmp_eq d119_22 (by decide) hx hy kt kf
theorem s119_25 {S : Nat × (Nat → Int32)} {L : List (Option Value)} {st : List Value} {n : Nat} {Q : xQ} {μ : xM}  (h : x_V S 119 26 L (.int (I 1) :: st) μ n Q) : x_V S 119 25 L (st) μ n Q := x_iconst (by decide +kernel) d119_25 h
theorem s119_26 {S : Nat × (Nat → Int32)} {L : List (Option Value)} {st : List Value} {n : Nat} {Q : xQ} {μ : xM} {x : Int32} (h : Q (.inl (some (.int x))) μ n) : x_V S 119 26 L (.int x :: []) μ n Q := x_ireturn d119_26 rfl rfl h
theorem s119_27 {S : Nat × (Nat → Int32)} {L : List (Option Value)} {st : List Value} {n : Nat} {Q : xQ} {μ : xM} {a : Nat} (hl : L[0]? = some (some (.ref a))) (h : x_V S 119 28 L (.ref a :: st) μ n Q) : x_V S 119 27 L (st) μ n Q := x_aload_n d119_27 hl h
theorem s119_27N {S : Nat × (Nat → Int32)} {L : List (Option Value)} {st : List Value} {n : Nat} {Q : xQ} {μ : xM} (hl : L[0]? = some (some .null)) (h : x_V S 119 28 L (.null :: st) μ n Q) : x_V S 119 27 L st μ n Q := x_aload_nN d119_27 hl h
theorem s119_28 {S : Nat × (Nat → Int32)} {L : List (Option Value)} {st : List Value} {n : Nat} {Q : xQ} {μ : xM} {a : Nat} (hl : L[0]? = some (some (.ref a))) (h : x_V S 119 29 L (.ref a :: st) μ n Q) : x_V S 119 28 L (st) μ n Q := x_aload_n d119_28 hl h
theorem s119_28N {S : Nat × (Nat → Int32)} {L : List (Option Value)} {st : List Value} {n : Nat} {Q : xQ} {μ : xM} (hl : L[0]? = some (some .null)) (h : x_V S 119 29 L (.null :: st) μ n Q) : x_V S 119 28 L st μ n Q := x_aload_nN d119_28 hl h
theorem s119_29 {S : Nat × (Nat → Int32)} {L : List (Option Value)} {st : List Value} {n : Nat} {Q : xQ} {g : Nat → Nat → Int} {a : Nat} (hs : x_sh a = (9, 39)) (hp : x_pt a 22 = none) (ha : a ≠ x_out) (h : x_V S 119 32 L (.int (I (g a 22)) :: st) (x_vm g) n Q) : x_V S 119 29 L (.ref a :: st) (x_vm g) n Q := v_get (i := 22) cf9 d119_29 (by decide) w717 hs hp ha h
theorem s119_32 {S : Nat × (Nat → Int32)} {L : List (Option Value)} {st : List Value} {n : Nat} {Q : xQ} {g : Nat → Nat → Int} {a : Nat} {x : Int} (hs : x_sh a = (9, 39)) (hp : x_pt a 23 = none) (ha : a ≠ x_out) (h : x_V S 119 35 L (st) (x_vm (x_uf g a 23 x)) n Q) : x_V S 119 32 L (.int (I x) :: .ref a :: st) (x_vm g) n Q := v_put (i := 23) cf9 d119_32 (by decide) rfl w718 hs rfl hp ha h
theorem s119_35 {S : Nat × (Nat → Int32)} {L : List (Option Value)} {st : List Value} {n : Nat} {Q : xQ} {μ : xM} {a : Nat} (hl : L[0]? = some (some (.ref a))) (h : x_V S 119 36 L (.ref a :: st) μ n Q) : x_V S 119 35 L (st) μ n Q := x_aload_n d119_35 hl h
theorem s119_35N {S : Nat × (Nat → Int32)} {L : List (Option Value)} {st : List Value} {n : Nat} {Q : xQ} {μ : xM} (hl : L[0]? = some (some .null)) (h : x_V S 119 36 L (.null :: st) μ n Q) : x_V S 119 35 L st μ n Q := x_aload_nN d119_35 hl h
theorem s119_36 {S : Nat × (Nat → Int32)} {L : List (Option Value)} {st : List Value} {n : Nat} {Q : xQ} {g : Nat → Nat → Int} {a : Nat} (hs : x_sh a = (9, 39)) (hp : x_pt a 8 = none) (ha : a ≠ x_out) (h : x_V S 119 39 L (.int (I (g a 8)) :: st) (x_vm g) n Q) : x_V S 119 36 L (.ref a :: st) (x_vm g) n Q := v_get (i := 8) cf9 d119_36 (by decide) w703 hs hp ha h
theorem s119_39 {S : Nat × (Nat → Int32)} {L : List (Option Value)} {st : List Value} {n : Nat} {Q : xQ} {μ : xM}  (h : x_V S 119 41 L (.int (I 52) :: st) μ n Q) : x_V S 119 39 L (st) μ n Q := x_bipush (by decide +kernel) d119_39 h
theorem s119_41 {S : Nat × (Nat → Int32)} {L : List (Option Value)} {st : List Value} {n : Nat} {Q : xQ} {μ : xM} {x y : Int} (hx : ib x) (hy : ib y) (kt : x ≠ y → x_V S 119 76 L (st) μ n Q) (kf : x = y → x_V S 119 44 L (st) μ n Q) : x_V S 119 41 L (.int (I y) :: .int (I x) :: st) μ n Q := v_icmp_ne d119_41 (by decide) hx hy kt kf
theorem s119_44 {S : Nat × (Nat → Int32)} {L : List (Option Value)} {st : List Value} {n : Nat} {Q : xQ} {μ : xM} {a : Nat} (hl : L[0]? = some (some (.ref a))) (h : x_V S 119 45 L (.ref a :: st) μ n Q) : x_V S 119 44 L (st) μ n Q := x_aload_n d119_44 hl h
theorem s119_44N {S : Nat × (Nat → Int32)} {L : List (Option Value)} {st : List Value} {n : Nat} {Q : xQ} {μ : xM} (hl : L[0]? = some (some .null)) (h : x_V S 119 45 L (.null :: st) μ n Q) : x_V S 119 44 L st μ n Q := x_aload_nN d119_44 hl h
theorem s119_45 {S : Nat × (Nat → Int32)} {L : List (Option Value)} {st : List Value} {n : Nat} {Q : xQ} {g : Nat → Nat → Int} {a : Nat} (hs : x_sh a = (9, 39)) (hp : x_pt a 11 = none) (ha : a ≠ x_out) (h : x_V S 119 48 L (.int (I (g a 11)) :: st) (x_vm g) n Q) : x_V S 119 45 L (.ref a :: st) (x_vm g) n Q := v_get (i := 11) cf9 d119_45 (by decide) w706 hs hp ha h
theorem s119_48 {S : Nat × (Nat → Int32)} {L : List (Option Value)} {st : List Value} {n : Nat} {Q : xQ} {μ : xM}  (h : x_V S 119 50 L (.int (I 78) :: st) μ n Q) : x_V S 119 48 L (st) μ n Q := x_bipush (by decide +kernel) d119_48 h
theorem s119_50 {S : Nat × (Nat → Int32)} {L : List (Option Value)} {st : List Value} {n : Nat} {Q : xQ} {μ : xM} {x y : Int} (hx : ib x) (hy : ib y) (kt : x ≠ y → x_V S 119 76 L (st) μ n Q) (kf : x = y → x_V S 119 53 L (st) μ n Q) : x_V S 119 50 L (.int (I y) :: .int (I x) :: st) μ n Q := v_icmp_ne d119_50 (by decide) hx hy kt kf
theorem s119_53 {S : Nat × (Nat → Int32)} {L : List (Option Value)} {st : List Value} {n : Nat} {Q : xQ} {μ : xM} {a : Nat} (hl : L[0]? = some (some (.ref a))) (h : x_V S 119 54 L (.ref a :: st) μ n Q) : x_V S 119 53 L (st) μ n Q := x_aload_n d119_53 hl h
theorem s119_53N {S : Nat × (Nat → Int32)} {L : List (Option Value)} {st : List Value} {n : Nat} {Q : xQ} {μ : xM} (hl : L[0]? = some (some .null)) (h : x_V S 119 54 L (.null :: st) μ n Q) : x_V S 119 53 L st μ n Q := x_aload_nN d119_53 hl h
theorem s119_54 {S : Nat × (Nat → Int32)} {L : List (Option Value)} {st : List Value} {n : Nat} {Q : xQ} {g : Nat → Nat → Int} {a : Nat} (hs : x_sh a = (9, 39)) (hp : x_pt a 10 = none) (ha : a ≠ x_out) (h : x_V S 119 57 L (.int (I (g a 10)) :: st) (x_vm g) n Q) : x_V S 119 54 L (.ref a :: st) (x_vm g) n Q := v_get (i := 10) cf9 d119_54 (by decide) w705 hs hp ha h
theorem s119_57 {S : Nat × (Nat → Int32)} {L : List (Option Value)} {st : List Value} {n : Nat} {Q : xQ} {μ : xM} {a : Nat} (hl : L[0]? = some (some (.ref a))) (h : x_V S 119 58 L (.ref a :: st) μ n Q) : x_V S 119 57 L (st) μ n Q := x_aload_n d119_57 hl h
theorem s119_57N {S : Nat × (Nat → Int32)} {L : List (Option Value)} {st : List Value} {n : Nat} {Q : xQ} {μ : xM} (hl : L[0]? = some (some .null)) (h : x_V S 119 58 L (.null :: st) μ n Q) : x_V S 119 57 L st μ n Q := x_aload_nN d119_57 hl h
theorem s119_58 {S : Nat × (Nat → Int32)} {L : List (Option Value)} {st : List Value} {n : Nat} {Q : xQ} {g : Nat → Nat → Int} {a : Nat} (hs : x_sh a = (9, 39)) (hp : x_pt a 20 = none) (ha : a ≠ x_out) (h : x_V S 119 61 L (.int (I (g a 20)) :: st) (x_vm g) n Q) : x_V S 119 58 L (.ref a :: st) (x_vm g) n Q := v_get (i := 20) cf9 d119_58 (by decide) w715 hs hp ha h
theorem s119_61 {S : Nat × (Nat → Int32)} {L : List (Option Value)} {st : List Value} {n : Nat} {Q : xQ} {μ : xM} {x y : Int} (hx : ib x) (hy : ib y) (kt : y < x → x_V S 119 66 L (st) μ n Q) (kf : x ≤ y → x_V S 119 64 L (st) μ n Q) : x_V S 119 61 L (.int (I y) :: .int (I x) :: st) μ n Q := v_icmp_gt d119_61 (by decide) hx hy kt kf
theorem s119_64 {S : Nat × (Nat → Int32)} {L : List (Option Value)} {st : List Value} {n : Nat} {Q : xQ} {μ : xM}  (h : x_V S 119 65 L (.int (I 1) :: st) μ n Q) : x_V S 119 64 L (st) μ n Q := x_iconst (by decide +kernel) d119_64 h
theorem s119_65 {S : Nat × (Nat → Int32)} {L : List (Option Value)} {st : List Value} {n : Nat} {Q : xQ} {μ : xM} {x : Int32} (h : Q (.inl (some (.int x))) μ n) : x_V S 119 65 L (.int x :: []) μ n Q := x_ireturn d119_65 rfl rfl h
theorem s119_66 {S : Nat × (Nat → Int32)} {L : List (Option Value)} {st : List Value} {n : Nat} {Q : xQ} {μ : xM} {a : Nat} (hl : L[0]? = some (some (.ref a))) (h : x_V S 119 67 L (.ref a :: st) μ n Q) : x_V S 119 66 L (st) μ n Q := x_aload_n d119_66 hl h
theorem s119_66N {S : Nat × (Nat → Int32)} {L : List (Option Value)} {st : List Value} {n : Nat} {Q : xQ} {μ : xM} (hl : L[0]? = some (some .null)) (h : x_V S 119 67 L (.null :: st) μ n Q) : x_V S 119 66 L st μ n Q := x_aload_nN d119_66 hl h
theorem s119_67 {S : Nat × (Nat → Int32)} {L : List (Option Value)} {st : List Value} {n : Nat} {Q : xQ} {μ : xM} {a : Nat} (hl : L[0]? = some (some (.ref a))) (h : x_V S 119 68 L (.ref a :: st) μ n Q) : x_V S 119 67 L (st) μ n Q := x_aload_n d119_67 hl h
theorem s119_67N {S : Nat × (Nat → Int32)} {L : List (Option Value)} {st : List Value} {n : Nat} {Q : xQ} {μ : xM} (hl : L[0]? = some (some .null)) (h : x_V S 119 68 L (.null :: st) μ n Q) : x_V S 119 67 L st μ n Q := x_aload_nN d119_67 hl h
theorem s119_68 {S : Nat × (Nat → Int32)} {L : List (Option Value)} {st : List Value} {n : Nat} {Q : xQ} {g : Nat → Nat → Int} {a : Nat} (hs : x_sh a = (9, 39)) (hp : x_pt a 10 = none) (ha : a ≠ x_out) (h : x_V S 119 71 L (.int (I (g a 10)) :: st) (x_vm g) n Q) : x_V S 119 68 L (.ref a :: st) (x_vm g) n Q := v_get (i := 10) cf9 d119_68 (by decide) w705 hs hp ha h
theorem s119_71 {S : Nat × (Nat → Int32)} {L : List (Option Value)} {st : List Value} {n : Nat} {Q : xQ} {g : Nat → Nat → Int} {a : Nat} {x : Int} (hs : x_sh a = (9, 39)) (hp : x_pt a 20 = none) (ha : a ≠ x_out) (h : x_V S 119 74 L (st) (x_vm (x_uf g a 20 x)) n Q) : x_V S 119 71 L (.int (I x) :: .ref a :: st) (x_vm g) n Q := v_put (i := 20) cf9 d119_71 (by decide) rfl w715 hs rfl hp ha h
theorem s119_74 {S : Nat × (Nat → Int32)} {L : List (Option Value)} {st : List Value} {n : Nat} {Q : xQ} {μ : xM}  (h : x_V S 119 75 L (.int (I 2) :: st) μ n Q) : x_V S 119 74 L (st) μ n Q := x_iconst (by decide +kernel) d119_74 h
theorem s119_75 {S : Nat × (Nat → Int32)} {L : List (Option Value)} {st : List Value} {n : Nat} {Q : xQ} {μ : xM} {x : Int32} (h : Q (.inl (some (.int x))) μ n) : x_V S 119 75 L (.int x :: []) μ n Q := x_ireturn d119_75 rfl rfl h
theorem s119_76 {S : Nat × (Nat → Int32)} {L : List (Option Value)} {st : List Value} {n : Nat} {Q : xQ} {μ : xM} {a : Nat} (hl : L[0]? = some (some (.ref a))) (h : x_V S 119 77 L (.ref a :: st) μ n Q) : x_V S 119 76 L (st) μ n Q := x_aload_n d119_76 hl h
theorem s119_76N {S : Nat × (Nat → Int32)} {L : List (Option Value)} {st : List Value} {n : Nat} {Q : xQ} {μ : xM} (hl : L[0]? = some (some .null)) (h : x_V S 119 77 L (.null :: st) μ n Q) : x_V S 119 76 L st μ n Q := x_aload_nN d119_76 hl h
theorem s119_77 {S : Nat × (Nat → Int32)} {L : List (Option Value)} {st : List Value} {n : Nat} {Q : xQ} {g : Nat → Nat → Int} {a : Nat} (hs : x_sh a = (9, 39)) (hp : x_pt a 9 = none) (ha : a ≠ x_out) (h : x_V S 119 80 L (.int (I (g a 9)) :: st) (x_vm g) n Q) : x_V S 119 77 L (.ref a :: st) (x_vm g) n Q := v_get (i := 9) cf9 d119_77 (by decide) w704 hs hp ha h
theorem s119_80 {S : Nat × (Nat → Int32)} {L : List (Option Value)} {st : List Value} {n : Nat} {Q : xQ} {μ : xM} {a : Nat} (hl : L[0]? = some (some (.ref a))) (h : x_V S 119 81 L (.ref a :: st) μ n Q) : x_V S 119 80 L (st) μ n Q := x_aload_n d119_80 hl h
theorem s119_80N {S : Nat × (Nat → Int32)} {L : List (Option Value)} {st : List Value} {n : Nat} {Q : xQ} {μ : xM} (hl : L[0]? = some (some .null)) (h : x_V S 119 81 L (.null :: st) μ n Q) : x_V S 119 80 L st μ n Q := x_aload_nN d119_80 hl h
theorem s119_81 {S : Nat × (Nat → Int32)} {L : List (Option Value)} {st : List Value} {n : Nat} {Q : xQ} {g : Nat → Nat → Int} {a : Nat} (hs : x_sh a = (9, 39)) (hp : x_pt a 20 = none) (ha : a ≠ x_out) (h : x_V S 119 84 L (.int (I (g a 20)) :: st) (x_vm g) n Q) : x_V S 119 81 L (.ref a :: st) (x_vm g) n Q := v_get (i := 20) cf9 d119_81 (by decide) w715 hs hp ha h
theorem s119_84 {S : Nat × (Nat → Int32)} {L : List (Option Value)} {st : List Value} {n : Nat} {Q : xQ} {μ : xM} {x y : Int} (hx : ib x) (hy : ib y) (kt : y ≤ x → x_V S 119 102 L (st) μ n Q) (kf : x < y → x_V S 119 87 L (st) μ n Q) : x_V S 119 84 L (.int (I y) :: .int (I x) :: st) μ n Q := v_icmp_ge d119_84 (by decide) hx hy kt kf
theorem s119_87 {S : Nat × (Nat → Int32)} {L : List (Option Value)} {st : List Value} {n : Nat} {Q : xQ} {μ : xM} {a : Nat} (hl : L[0]? = some (some (.ref a))) (h : x_V S 119 88 L (.ref a :: st) μ n Q) : x_V S 119 87 L (st) μ n Q := x_aload_n d119_87 hl h
theorem s119_87N {S : Nat × (Nat → Int32)} {L : List (Option Value)} {st : List Value} {n : Nat} {Q : xQ} {μ : xM} (hl : L[0]? = some (some .null)) (h : x_V S 119 88 L (.null :: st) μ n Q) : x_V S 119 87 L st μ n Q := x_aload_nN d119_87 hl h
theorem s119_88 {S : Nat × (Nat → Int32)} {L : List (Option Value)} {st : List Value} {n : Nat} {Q : xQ} {g : Nat → Nat → Int} {a : Nat} (hs : x_sh a = (9, 39)) (hp : x_pt a 13 = none) (ha : a ≠ x_out) (h : x_V S 119 91 L (.int (I (g a 13)) :: st) (x_vm g) n Q) : x_V S 119 88 L (.ref a :: st) (x_vm g) n Q := v_get (i := 13) cf9 d119_88 (by decide) w708 hs hp ha h
theorem s119_91 {S : Nat × (Nat → Int32)} {L : List (Option Value)} {st : List Value} {n : Nat} {Q : xQ} {μ : xM} {x : Int} (hx : ib x) (kt : x = 0 → x_V S 119 96 L (st) μ n Q) (kf : x ≠ 0 → x_V S 119 94 L (st) μ n Q) : x_V S 119 91 L (.int (I x) :: st) μ n Q := v_if_eq d119_91 (by decide) hx kt kf
theorem s119_94 {S : Nat × (Nat → Int32)} {L : List (Option Value)} {st : List Value} {n : Nat} {Q : xQ} {μ : xM}  (h : x_V S 119 95 L (.int (I 1) :: st) μ n Q) : x_V S 119 94 L (st) μ n Q := x_iconst (by decide +kernel) d119_94 h
theorem s119_95 {S : Nat × (Nat → Int32)} {L : List (Option Value)} {st : List Value} {n : Nat} {Q : xQ} {μ : xM} {x : Int32} (h : Q (.inl (some (.int x))) μ n) : x_V S 119 95 L (.int x :: []) μ n Q := x_ireturn d119_95 rfl rfl h
theorem s119_96 {S : Nat × (Nat → Int32)} {L : List (Option Value)} {st : List Value} {n : Nat} {Q : xQ} {μ : xM} {a : Nat} (hl : L[0]? = some (some (.ref a))) (h : x_V S 119 97 L (.ref a :: st) μ n Q) : x_V S 119 96 L (st) μ n Q := x_aload_n d119_96 hl h
theorem s119_96N {S : Nat × (Nat → Int32)} {L : List (Option Value)} {st : List Value} {n : Nat} {Q : xQ} {μ : xM} (hl : L[0]? = some (some .null)) (h : x_V S 119 97 L (.null :: st) μ n Q) : x_V S 119 96 L st μ n Q := x_aload_nN d119_96 hl h
theorem s119_97 {S : Nat × (Nat → Int32)} {L : List (Option Value)} {st : List Value} {n : Nat} {Q : xQ} {μ : xM}  {a : Nat} (hs : x_sh a = (9, 39)) (hst : st.length ≤ 4) (h : x_V S 99 0 [some (.ref a)] [] μ n (x_bk S 119 97 L st Q)) : x_V S 119 97 L (.ref a :: st) μ n Q := x_callV (k' := 99) (as := []) (na := 0) d119_97 ⟨w912, by decide +kernel, by decide, by decide, by decide, by decide, by decide⟩ cf9 w909 w911 wp38 (by decide +kernel) rfl hs (fun v hv => by
    cases hv) hst h
theorem s119_100 {S : Nat × (Nat → Int32)} {L : List (Option Value)} {st : List Value} {n : Nat} {Q : xQ} {μ : xM}  (h : x_V S 119 101 L (.int (I 4) :: st) μ n Q) : x_V S 119 100 L (st) μ n Q := x_iconst (by decide +kernel) d119_100 h
theorem s119_101 {S : Nat × (Nat → Int32)} {L : List (Option Value)} {st : List Value} {n : Nat} {Q : xQ} {μ : xM} {x : Int32} (h : Q (.inl (some (.int x))) μ n) : x_V S 119 101 L (.int x :: []) μ n Q := x_ireturn d119_101 rfl rfl h
theorem s119_102 {S : Nat × (Nat → Int32)} {L : List (Option Value)} {st : List Value} {n : Nat} {Q : xQ} {μ : xM} {a : Nat} (hl : L[0]? = some (some (.ref a))) (h : x_V S 119 103 L (.ref a :: st) μ n Q) : x_V S 119 102 L (st) μ n Q := x_aload_n d119_102 hl h
theorem s119_102N {S : Nat × (Nat → Int32)} {L : List (Option Value)} {st : List Value} {n : Nat} {Q : xQ} {μ : xM} (hl : L[0]? = some (some .null)) (h : x_V S 119 103 L (.null :: st) μ n Q) : x_V S 119 102 L st μ n Q := x_aload_nN d119_102 hl h
theorem s119_103 {S : Nat × (Nat → Int32)} {L : List (Option Value)} {st : List Value} {n : Nat} {Q : xQ} {g : Nat → Nat → Int} {a : Nat} (hs : x_sh a = (9, 39)) (hp : x_pt a 19 = none) (ha : a ≠ x_out) (h : x_V S 119 106 L (.int (I (g a 19)) :: st) (x_vm g) n Q) : x_V S 119 103 L (.ref a :: st) (x_vm g) n Q := v_get (i := 19) cf9 d119_103 (by decide) w714 hs hp ha h
theorem s119_106 {S : Nat × (Nat → Int32)} {L : List (Option Value)} {st : List Value} {n : Nat} {Q : xQ} {μ : xM} {x : Int} (hx : ib x) (kt : x ≠ 0 → x_V S 119 132 L (st) μ n Q) (kf : x = 0 → x_V S 119 109 L (st) μ n Q) : x_V S 119 106 L (.int (I x) :: st) μ n Q := v_if_ne d119_106 (by decide) hx kt kf
theorem s119_109 {S : Nat × (Nat → Int32)} {L : List (Option Value)} {st : List Value} {n : Nat} {Q : xQ} {μ : xM} {a : Nat} (hl : L[0]? = some (some (.ref a))) (h : x_V S 119 110 L (.ref a :: st) μ n Q) : x_V S 119 109 L (st) μ n Q := x_aload_n d119_109 hl h
theorem s119_109N {S : Nat × (Nat → Int32)} {L : List (Option Value)} {st : List Value} {n : Nat} {Q : xQ} {μ : xM} (hl : L[0]? = some (some .null)) (h : x_V S 119 110 L (.null :: st) μ n Q) : x_V S 119 109 L st μ n Q := x_aload_nN d119_109 hl h
theorem s119_110 {S : Nat × (Nat → Int32)} {L : List (Option Value)} {st : List Value} {n : Nat} {Q : xQ} {μ : xM}  (h : x_V S 119 111 L (.int (I 1) :: st) μ n Q) : x_V S 119 110 L (st) μ n Q := x_iconst (by decide +kernel) d119_110 h
theorem s119_111 {S : Nat × (Nat → Int32)} {L : List (Option Value)} {st : List Value} {n : Nat} {Q : xQ} {g : Nat → Nat → Int} {a : Nat} {x : Int} (hs : x_sh a = (9, 39)) (hx : x = 0 ∨ x = 1) (hp : x_pt a 19 = none) (ha : a ≠ x_out) (h : x_V S 119 114 L (st) (x_vm (x_uf g a 19 x)) n Q) : x_V S 119 111 L (.int (I x) :: .ref a :: st) (x_vm g) n Q := v_putz (i := 19) cf9 d119_111 (by decide) rfl w714 hs rfl hx hp ha h
theorem s119_114 {S : Nat × (Nat → Int32)} {L : List (Option Value)} {st : List Value} {n : Nat} {Q : xQ} {μ : xM} {a : Nat} (hl : L[0]? = some (some (.ref a))) (h : x_V S 119 115 L (.ref a :: st) μ n Q) : x_V S 119 114 L (st) μ n Q := x_aload_n d119_114 hl h
theorem s119_114N {S : Nat × (Nat → Int32)} {L : List (Option Value)} {st : List Value} {n : Nat} {Q : xQ} {μ : xM} (hl : L[0]? = some (some .null)) (h : x_V S 119 115 L (.null :: st) μ n Q) : x_V S 119 114 L st μ n Q := x_aload_nN d119_114 hl h
theorem s119_115 {S : Nat × (Nat → Int32)} {L : List (Option Value)} {st : List Value} {n : Nat} {Q : xQ} {μ : xM}  (h : x_V S 119 116 L (.int (I 0) :: st) μ n Q) : x_V S 119 115 L (st) μ n Q := x_iconst (by decide +kernel) d119_115 h
theorem s119_116 {S : Nat × (Nat → Int32)} {L : List (Option Value)} {st : List Value} {n : Nat} {Q : xQ} {g : Nat → Nat → Int} {a : Nat} {x : Int} (hs : x_sh a = (9, 39)) (hp : x_pt a 26 = none) (ha : a ≠ x_out) (h : x_V S 119 119 L (st) (x_vm (x_uf g a 26 x)) n Q) : x_V S 119 116 L (.int (I x) :: .ref a :: st) (x_vm g) n Q := v_put (i := 26) cf9 d119_116 (by decide) rfl w721 hs rfl hp ha h
theorem s119_119 {S : Nat × (Nat → Int32)} {L : List (Option Value)} {st : List Value} {n : Nat} {Q : xQ} {μ : xM} {a : Nat} (hl : L[0]? = some (some (.ref a))) (h : x_V S 119 120 L (.ref a :: st) μ n Q) : x_V S 119 119 L (st) μ n Q := x_aload_n d119_119 hl h
theorem s119_119N {S : Nat × (Nat → Int32)} {L : List (Option Value)} {st : List Value} {n : Nat} {Q : xQ} {μ : xM} (hl : L[0]? = some (some .null)) (h : x_V S 119 120 L (.null :: st) μ n Q) : x_V S 119 119 L st μ n Q := x_aload_nN d119_119 hl h
theorem s119_120 {S : Nat × (Nat → Int32)} {L : List (Option Value)} {st : List Value} {n : Nat} {Q : xQ} {μ : xM}  (h : x_V S 119 122 L (.int (I 65) :: st) μ n Q) : x_V S 119 120 L (st) μ n Q := x_bipush (by decide +kernel) d119_120 h
theorem s119_122 {S : Nat × (Nat → Int32)} {L : List (Option Value)} {st : List Value} {n : Nat} {Q : xQ} {μ : xM} {a : Nat} (hl : L[0]? = some (some (.ref a))) (h : x_V S 119 123 L (.ref a :: st) μ n Q) : x_V S 119 122 L (st) μ n Q := x_aload_n d119_122 hl h
theorem s119_122N {S : Nat × (Nat → Int32)} {L : List (Option Value)} {st : List Value} {n : Nat} {Q : xQ} {μ : xM} (hl : L[0]? = some (some .null)) (h : x_V S 119 123 L (.null :: st) μ n Q) : x_V S 119 122 L st μ n Q := x_aload_nN d119_122 hl h
theorem s119_123 {S : Nat × (Nat → Int32)} {L : List (Option Value)} {st : List Value} {n : Nat} {Q : xQ} {g : Nat → Nat → Int} {a : Nat} (hs : x_sh a = (9, 39)) (hp : x_pt a 10 = none) (ha : a ≠ x_out) (h : x_V S 119 126 L (.int (I (g a 10)) :: st) (x_vm g) n Q) : x_V S 119 123 L (.ref a :: st) (x_vm g) n Q := v_get (i := 10) cf9 d119_123 (by decide) w705 hs hp ha h
theorem s119_126 {S : Nat × (Nat → Int32)} {L : List (Option Value)} {st : List Value} {n : Nat} {Q : xQ} {μ : xM}  (h : x_V S 119 127 L (.int (I 0) :: st) μ n Q) : x_V S 119 126 L (st) μ n Q := x_iconst (by decide +kernel) d119_126 h
theorem s119_127 {S : Nat × (Nat → Int32)} {L : List (Option Value)} {st : List Value} {n : Nat} {Q : xQ} {μ : xM}  (h : x_V S 119 128 L (.int (I 0) :: st) μ n Q) : x_V S 119 127 L (st) μ n Q := x_iconst (by decide +kernel) d119_127 h
theorem s119_128 {S : Nat × (Nat → Int32)} {L : List (Option Value)} {st : List Value} {n : Nat} {Q : xQ} {μ : xM}  (h : x_V S 119 129 L (.int (I 0) :: st) μ n Q) : x_V S 119 128 L (st) μ n Q := x_iconst (by decide +kernel) d119_128 h
theorem s119_129 {S : Nat × (Nat → Int32)} {L : List (Option Value)} {st : List Value} {n : Nat} {Q : xQ} {μ : xM} {x0 : Int32} {x1 : Int32} {x2 : Int32} {x3 : Int32} {x4 : Int32} {a : Nat} (hs : x_sh a = (9, 39)) (hst : st.length ≤ 4) (h : x_V S 98 0 [some (.ref a), some (.int x0), some (.int x1), some (.int x2), some (.int x3), some (.int x4)] [] μ n (x_bk S 119 129 L st Q)) : x_V S 119 129 L (.int x4 :: .int x3 :: .int x2 :: .int x1 :: .int x0 :: .ref a :: st) μ n Q := x_callV (k' := 98) (as := [.int x0, .int x1, .int x2, .int x3, .int x4]) (na := 5) d119_129 ⟨w916, by decide +kernel, by decide, by decide, by decide, by decide, by decide⟩ cf9 w913 w915 wp39 (by decide +kernel) rfl hs (fun v hv => by
    simp only [List.mem_cons, List.not_mem_nil, or_false] at hv
    rcases hv with rfl | rfl | rfl | rfl | rfl <;> first | rfl | assumption) hst h
theorem s119_132 {S : Nat × (Nat → Int32)} {L : List (Option Value)} {st : List Value} {n : Nat} {Q : xQ} {μ : xM} {a : Nat} (hl : L[0]? = some (some (.ref a))) (h : x_V S 119 133 L (.ref a :: st) μ n Q) : x_V S 119 132 L (st) μ n Q := x_aload_n d119_132 hl h
theorem s119_132N {S : Nat × (Nat → Int32)} {L : List (Option Value)} {st : List Value} {n : Nat} {Q : xQ} {μ : xM} (hl : L[0]? = some (some .null)) (h : x_V S 119 133 L (.null :: st) μ n Q) : x_V S 119 132 L st μ n Q := x_aload_nN d119_132 hl h
theorem s119_133 {S : Nat × (Nat → Int32)} {L : List (Option Value)} {st : List Value} {n : Nat} {Q : xQ} {g : Nat → Nat → Int} {a : Nat} (hs : x_sh a = (9, 39)) (hp : x_pt a 9 = none) (ha : a ≠ x_out) (h : x_V S 119 136 L (.int (I (g a 9)) :: st) (x_vm g) n Q) : x_V S 119 133 L (.ref a :: st) (x_vm g) n Q := v_get (i := 9) cf9 d119_133 (by decide) w704 hs hp ha h
theorem s119_136 {S : Nat × (Nat → Int32)} {L : List (Option Value)} {st : List Value} {n : Nat} {Q : xQ} {μ : xM} {a : Nat} (hl : L[0]? = some (some (.ref a))) (h : x_V S 119 137 L (.ref a :: st) μ n Q) : x_V S 119 136 L (st) μ n Q := x_aload_n d119_136 hl h
theorem s119_136N {S : Nat × (Nat → Int32)} {L : List (Option Value)} {st : List Value} {n : Nat} {Q : xQ} {μ : xM} (hl : L[0]? = some (some .null)) (h : x_V S 119 137 L (.null :: st) μ n Q) : x_V S 119 136 L st μ n Q := x_aload_nN d119_136 hl h
theorem s119_137 {S : Nat × (Nat → Int32)} {L : List (Option Value)} {st : List Value} {n : Nat} {Q : xQ} {g : Nat → Nat → Int} {a : Nat} (hs : x_sh a = (9, 39)) (hp : x_pt a 20 = none) (ha : a ≠ x_out) (h : x_V S 119 140 L (.int (I (g a 20)) :: st) (x_vm g) n Q) : x_V S 119 137 L (.ref a :: st) (x_vm g) n Q := v_get (i := 20) cf9 d119_137 (by decide) w715 hs hp ha h
theorem s119_140 {S : Nat × (Nat → Int32)} {L : List (Option Value)} {st : List Value} {n : Nat} {Q : xQ} {μ : xM} {x y : Int} (hx : ib x) (hy : ib y) (kt : x ≤ y → x_V S 119 230 L (st) μ n Q) (kf : y < x → x_V S 119 143 L (st) μ n Q) : x_V S 119 140 L (.int (I y) :: .int (I x) :: st) μ n Q := v_icmp_le d119_140 (by decide) hx hy kt kf
theorem s119_143 {S : Nat × (Nat → Int32)} {L : List (Option Value)} {st : List Value} {n : Nat} {Q : xQ} {μ : xM} {a : Nat} (hl : L[0]? = some (some (.ref a))) (h : x_V S 119 144 L (.ref a :: st) μ n Q) : x_V S 119 143 L (st) μ n Q := x_aload_n d119_143 hl h
theorem s119_143N {S : Nat × (Nat → Int32)} {L : List (Option Value)} {st : List Value} {n : Nat} {Q : xQ} {μ : xM} (hl : L[0]? = some (some .null)) (h : x_V S 119 144 L (.null :: st) μ n Q) : x_V S 119 143 L st μ n Q := x_aload_nN d119_143 hl h
theorem s119_144 {S : Nat × (Nat → Int32)} {L : List (Option Value)} {st : List Value} {n : Nat} {Q : xQ} {g : Nat → Nat → Int} {a : Nat} (hs : x_sh a = (9, 39)) (hp : x_pt a 8 = none) (ha : a ≠ x_out) (h : x_V S 119 147 L (.int (I (g a 8)) :: st) (x_vm g) n Q) : x_V S 119 144 L (.ref a :: st) (x_vm g) n Q := v_get (i := 8) cf9 d119_144 (by decide) w703 hs hp ha h
theorem s119_147 {S : Nat × (Nat → Int32)} {L : List (Option Value)} {st : List Value} {n : Nat} {Q : xQ} {μ : xM}  (h : x_V S 119 149 L (.int (I 50) :: st) μ n Q) : x_V S 119 147 L (st) μ n Q := x_bipush (by decide +kernel) d119_147 h
theorem s119_149 {S : Nat × (Nat → Int32)} {L : List (Option Value)} {st : List Value} {n : Nat} {Q : xQ} {μ : xM} {x y : Int} (hx : ib x) (hy : ib y) (kt : x ≠ y → x_V S 119 164 L (st) μ n Q) (kf : x = y → x_V S 119 152 L (st) μ n Q) : x_V S 119 149 L (.int (I y) :: .int (I x) :: st) μ n Q := v_icmp_ne d119_149 (by decide) hx hy kt kf
theorem s119_152 {S : Nat × (Nat → Int32)} {L : List (Option Value)} {st : List Value} {n : Nat} {Q : xQ} {μ : xM} {a : Nat} (hl : L[0]? = some (some (.ref a))) (h : x_V S 119 153 L (.ref a :: st) μ n Q) : x_V S 119 152 L (st) μ n Q := x_aload_n d119_152 hl h
theorem s119_152N {S : Nat × (Nat → Int32)} {L : List (Option Value)} {st : List Value} {n : Nat} {Q : xQ} {μ : xM} (hl : L[0]? = some (some .null)) (h : x_V S 119 153 L (.null :: st) μ n Q) : x_V S 119 152 L st μ n Q := x_aload_nN d119_152 hl h
theorem s119_153 {S : Nat × (Nat → Int32)} {L : List (Option Value)} {st : List Value} {n : Nat} {Q : xQ} {μ : xM} {a : Nat} (hl : L[0]? = some (some (.ref a))) (h : x_V S 119 154 L (.ref a :: st) μ n Q) : x_V S 119 153 L (st) μ n Q := x_aload_n d119_153 hl h
theorem s119_153N {S : Nat × (Nat → Int32)} {L : List (Option Value)} {st : List Value} {n : Nat} {Q : xQ} {μ : xM} (hl : L[0]? = some (some .null)) (h : x_V S 119 154 L (.null :: st) μ n Q) : x_V S 119 153 L st μ n Q := x_aload_nN d119_153 hl h
theorem s119_154 {S : Nat × (Nat → Int32)} {L : List (Option Value)} {st : List Value} {n : Nat} {Q : xQ} {g : Nat → Nat → Int} {a : Nat} (hs : x_sh a = (9, 39)) (hp : x_pt a 10 = none) (ha : a ≠ x_out) (h : x_V S 119 157 L (.int (I (g a 10)) :: st) (x_vm g) n Q) : x_V S 119 154 L (.ref a :: st) (x_vm g) n Q := v_get (i := 10) cf9 d119_154 (by decide) w705 hs hp ha h
theorem s119_157 {S : Nat × (Nat → Int32)} {L : List (Option Value)} {st : List Value} {n : Nat} {Q : xQ} {μ : xM} {a : Nat} (hl : L[0]? = some (some (.ref a))) (h : x_V S 119 158 L (.ref a :: st) μ n Q) : x_V S 119 157 L (st) μ n Q := x_aload_n d119_157 hl h
theorem s119_157N {S : Nat × (Nat → Int32)} {L : List (Option Value)} {st : List Value} {n : Nat} {Q : xQ} {μ : xM} (hl : L[0]? = some (some .null)) (h : x_V S 119 158 L (.null :: st) μ n Q) : x_V S 119 157 L st μ n Q := x_aload_nN d119_157 hl h
theorem s119_158 {S : Nat × (Nat → Int32)} {L : List (Option Value)} {st : List Value} {n : Nat} {Q : xQ} {g : Nat → Nat → Int} {a : Nat} (hs : x_sh a = (9, 39)) (hp : x_pt a 11 = none) (ha : a ≠ x_out) (h : x_V S 119 161 L (.int (I (g a 11)) :: st) (x_vm g) n Q) : x_V S 119 158 L (.ref a :: st) (x_vm g) n Q := v_get (i := 11) cf9 d119_158 (by decide) w706 hs hp ha h
theorem s119_161 {S : Nat × (Nat → Int32)} {L : List (Option Value)} {st : List Value} {n : Nat} {Q : xQ} {μ : xM} {x0 : Int32} {x1 : Int32} {a : Nat} (hs : x_sh a = (9, 39)) (hst : st.length ≤ 4) (h : x_V S 101 0 [some (.ref a), some (.int x0), some (.int x1), none, none, none] [] μ n (x_bk S 119 161 L st Q)) : x_V S 119 161 L (.int x1 :: .int x0 :: .ref a :: st) μ n Q := x_callV (k' := 101) (as := [.int x0, .int x1]) (na := 2) d119_161 ⟨w924, by decide +kernel, by decide, by decide, by decide, by decide, by decide⟩ cf9 w921 w923 wp41 (by decide +kernel) rfl hs (fun v hv => by
    simp only [List.mem_cons, List.not_mem_nil, or_false] at hv
    rcases hv with rfl | rfl <;> first | rfl | assumption) hst h
theorem s119_164 {S : Nat × (Nat → Int32)} {L : List (Option Value)} {st : List Value} {n : Nat} {Q : xQ} {μ : xM} {a : Nat} (hl : L[0]? = some (some (.ref a))) (h : x_V S 119 165 L (.ref a :: st) μ n Q) : x_V S 119 164 L (st) μ n Q := x_aload_n d119_164 hl h
theorem s119_164N {S : Nat × (Nat → Int32)} {L : List (Option Value)} {st : List Value} {n : Nat} {Q : xQ} {μ : xM} (hl : L[0]? = some (some .null)) (h : x_V S 119 165 L (.null :: st) μ n Q) : x_V S 119 164 L st μ n Q := x_aload_nN d119_164 hl h
theorem s119_165 {S : Nat × (Nat → Int32)} {L : List (Option Value)} {st : List Value} {n : Nat} {Q : xQ} {g : Nat → Nat → Int} {a : Nat} (hs : x_sh a = (9, 39)) (hp : x_pt a 8 = none) (ha : a ≠ x_out) (h : x_V S 119 168 L (.int (I (g a 8)) :: st) (x_vm g) n Q) : x_V S 119 165 L (.ref a :: st) (x_vm g) n Q := v_get (i := 8) cf9 d119_165 (by decide) w703 hs hp ha h
theorem s119_168 {S : Nat × (Nat → Int32)} {L : List (Option Value)} {st : List Value} {n : Nat} {Q : xQ} {μ : xM}  (h : x_V S 119 170 L (.int (I 53) :: st) μ n Q) : x_V S 119 168 L (st) μ n Q := x_bipush (by decide +kernel) d119_168 h
theorem s119_170 {S : Nat × (Nat → Int32)} {L : List (Option Value)} {st : List Value} {n : Nat} {Q : xQ} {μ : xM} {x y : Int} (hx : ib x) (hy : ib y) (kt : x ≠ y → x_V S 119 177 L (st) μ n Q) (kf : x = y → x_V S 119 173 L (st) μ n Q) : x_V S 119 170 L (.int (I y) :: .int (I x) :: st) μ n Q := v_icmp_ne d119_170 (by decide) hx hy kt kf
theorem s119_173 {S : Nat × (Nat → Int32)} {L : List (Option Value)} {st : List Value} {n : Nat} {Q : xQ} {μ : xM} {a : Nat} (hl : L[0]? = some (some (.ref a))) (h : x_V S 119 174 L (.ref a :: st) μ n Q) : x_V S 119 173 L (st) μ n Q := x_aload_n d119_173 hl h
theorem s119_173N {S : Nat × (Nat → Int32)} {L : List (Option Value)} {st : List Value} {n : Nat} {Q : xQ} {μ : xM} (hl : L[0]? = some (some .null)) (h : x_V S 119 174 L (.null :: st) μ n Q) : x_V S 119 173 L st μ n Q := x_aload_nN d119_173 hl h
theorem s119_174 {S : Nat × (Nat → Int32)} {L : List (Option Value)} {st : List Value} {n : Nat} {Q : xQ} {μ : xM}  {a : Nat} (hs : x_sh a = (9, 39)) (hst : st.length ≤ 4) (h : x_V S 99 0 [some (.ref a)] [] μ n (x_bk S 119 174 L st Q)) : x_V S 119 174 L (.ref a :: st) μ n Q := x_callV (k' := 99) (as := []) (na := 0) d119_174 ⟨w912, by decide +kernel, by decide, by decide, by decide, by decide, by decide⟩ cf9 w909 w911 wp38 (by decide +kernel) rfl hs (fun v hv => by
    cases hv) hst h
theorem s119_177 {S : Nat × (Nat → Int32)} {L : List (Option Value)} {st : List Value} {n : Nat} {Q : xQ} {μ : xM} {a : Nat} (hl : L[0]? = some (some (.ref a))) (h : x_V S 119 178 L (.ref a :: st) μ n Q) : x_V S 119 177 L (st) μ n Q := x_aload_n d119_177 hl h
theorem s119_177N {S : Nat × (Nat → Int32)} {L : List (Option Value)} {st : List Value} {n : Nat} {Q : xQ} {μ : xM} (hl : L[0]? = some (some .null)) (h : x_V S 119 178 L (.null :: st) μ n Q) : x_V S 119 177 L st μ n Q := x_aload_nN d119_177 hl h
theorem s119_178 {S : Nat × (Nat → Int32)} {L : List (Option Value)} {st : List Value} {n : Nat} {Q : xQ} {g : Nat → Nat → Int} {a : Nat} (hs : x_sh a = (9, 39)) (hp : x_pt a 19 = none) (ha : a ≠ x_out) (h : x_V S 119 181 L (.int (I (g a 19)) :: st) (x_vm g) n Q) : x_V S 119 178 L (.ref a :: st) (x_vm g) n Q := v_get (i := 19) cf9 d119_178 (by decide) w714 hs hp ha h
theorem s119_181 {S : Nat × (Nat → Int32)} {L : List (Option Value)} {st : List Value} {n : Nat} {Q : xQ} {μ : xM} {x : Int} (hx : ib x) (kt : x = 0 → x_V S 119 195 L (st) μ n Q) (kf : x ≠ 0 → x_V S 119 184 L (st) μ n Q) : x_V S 119 181 L (.int (I x) :: st) μ n Q := v_if_eq d119_181 (by decide) hx kt kf
theorem s119_184 {S : Nat × (Nat → Int32)} {L : List (Option Value)} {st : List Value} {n : Nat} {Q : xQ} {μ : xM} {a : Nat} (hl : L[0]? = some (some (.ref a))) (h : x_V S 119 185 L (.ref a :: st) μ n Q) : x_V S 119 184 L (st) μ n Q := x_aload_n d119_184 hl h
theorem s119_184N {S : Nat × (Nat → Int32)} {L : List (Option Value)} {st : List Value} {n : Nat} {Q : xQ} {μ : xM} (hl : L[0]? = some (some .null)) (h : x_V S 119 185 L (.null :: st) μ n Q) : x_V S 119 184 L st μ n Q := x_aload_nN d119_184 hl h
theorem s119_185 {S : Nat × (Nat → Int32)} {L : List (Option Value)} {st : List Value} {n : Nat} {Q : xQ} {g : Nat → Nat → Int} {a : Nat} (hs : x_sh a = (9, 39)) (hp : x_pt a 26 = none) (ha : a ≠ x_out) (h : x_V S 119 188 L (.int (I (g a 26)) :: st) (x_vm g) n Q) : x_V S 119 185 L (.ref a :: st) (x_vm g) n Q := v_get (i := 26) cf9 d119_185 (by decide) w721 hs hp ha h
theorem s119_188 {S : Nat × (Nat → Int32)} {L : List (Option Value)} {st : List Value} {n : Nat} {Q : xQ} {μ : xM} {x : Int} (hx : ib x) (kt : x ≠ 0 → x_V S 119 195 L (st) μ n Q) (kf : x = 0 → x_V S 119 191 L (st) μ n Q) : x_V S 119 188 L (.int (I x) :: st) μ n Q := v_if_ne d119_188 (by decide) hx kt kf
theorem s119_191 {S : Nat × (Nat → Int32)} {L : List (Option Value)} {st : List Value} {n : Nat} {Q : xQ} {μ : xM} {a : Nat} (hl : L[0]? = some (some (.ref a))) (h : x_V S 119 192 L (.ref a :: st) μ n Q) : x_V S 119 191 L (st) μ n Q := x_aload_n d119_191 hl h
theorem s119_191N {S : Nat × (Nat → Int32)} {L : List (Option Value)} {st : List Value} {n : Nat} {Q : xQ} {μ : xM} (hl : L[0]? = some (some .null)) (h : x_V S 119 192 L (.null :: st) μ n Q) : x_V S 119 191 L st μ n Q := x_aload_nN d119_191 hl h
theorem s119_192 {S : Nat × (Nat → Int32)} {L : List (Option Value)} {st : List Value} {n : Nat} {Q : xQ} {μ : xM}  {a : Nat} (hs : x_sh a = (9, 39)) (hst : st.length ≤ 4) (h : x_V S 100 0 [some (.ref a)] [] μ n (x_bk S 119 192 L st Q)) : x_V S 119 192 L (.ref a :: st) μ n Q := x_callV (k' := 100) (as := []) (na := 0) d119_192 ⟨w928, by decide +kernel, by decide, by decide, by decide, by decide, by decide⟩ cf9 w925 w927 wp42 (by decide +kernel) rfl hs (fun v hv => by
    cases hv) hst h
theorem s119_195 {S : Nat × (Nat → Int32)} {L : List (Option Value)} {st : List Value} {n : Nat} {Q : xQ} {μ : xM} {a : Nat} (hl : L[0]? = some (some (.ref a))) (h : x_V S 119 196 L (.ref a :: st) μ n Q) : x_V S 119 195 L (st) μ n Q := x_aload_n d119_195 hl h
theorem s119_195N {S : Nat × (Nat → Int32)} {L : List (Option Value)} {st : List Value} {n : Nat} {Q : xQ} {μ : xM} (hl : L[0]? = some (some .null)) (h : x_V S 119 196 L (.null :: st) μ n Q) : x_V S 119 195 L st μ n Q := x_aload_nN d119_195 hl h
theorem s119_196 {S : Nat × (Nat → Int32)} {L : List (Option Value)} {st : List Value} {n : Nat} {Q : xQ} {μ : xM} {a : Nat} (hl : L[0]? = some (some (.ref a))) (h : x_V S 119 197 L (.ref a :: st) μ n Q) : x_V S 119 196 L (st) μ n Q := x_aload_n d119_196 hl h
theorem s119_196N {S : Nat × (Nat → Int32)} {L : List (Option Value)} {st : List Value} {n : Nat} {Q : xQ} {μ : xM} (hl : L[0]? = some (some .null)) (h : x_V S 119 197 L (.null :: st) μ n Q) : x_V S 119 196 L st μ n Q := x_aload_nN d119_196 hl h
theorem s119_197 {S : Nat × (Nat → Int32)} {L : List (Option Value)} {st : List Value} {n : Nat} {Q : xQ} {g : Nat → Nat → Int} {a : Nat} (hs : x_sh a = (9, 39)) (hp : x_pt a 19 = none) (ha : a ≠ x_out) (h : x_V S 119 200 L (.int (I (g a 19)) :: st) (x_vm g) n Q) : x_V S 119 197 L (.ref a :: st) (x_vm g) n Q := v_get (i := 19) cf9 d119_197 (by decide) w714 hs hp ha h
theorem s119_200 {S : Nat × (Nat → Int32)} {L : List (Option Value)} {st : List Value} {n : Nat} {Q : xQ} {μ : xM} {x : Int} (hx : ib x) (kt : x = 0 → x_V S 119 221 L (st) μ n Q) (kf : x ≠ 0 → x_V S 119 203 L (st) μ n Q) : x_V S 119 200 L (.int (I x) :: st) μ n Q := v_if_eq d119_200 (by decide) hx kt kf
theorem s119_203 {S : Nat × (Nat → Int32)} {L : List (Option Value)} {st : List Value} {n : Nat} {Q : xQ} {μ : xM} {a : Nat} (hl : L[0]? = some (some (.ref a))) (h : x_V S 119 204 L (.ref a :: st) μ n Q) : x_V S 119 203 L (st) μ n Q := x_aload_n d119_203 hl h
theorem s119_203N {S : Nat × (Nat → Int32)} {L : List (Option Value)} {st : List Value} {n : Nat} {Q : xQ} {μ : xM} (hl : L[0]? = some (some .null)) (h : x_V S 119 204 L (.null :: st) μ n Q) : x_V S 119 203 L st μ n Q := x_aload_nN d119_203 hl h
theorem s119_204 {S : Nat × (Nat → Int32)} {L : List (Option Value)} {st : List Value} {n : Nat} {Q : xQ} {g : Nat → Nat → Int} {a : Nat} (hs : x_sh a = (9, 39)) (hp : x_pt a 9 = none) (ha : a ≠ x_out) (h : x_V S 119 207 L (.int (I (g a 9)) :: st) (x_vm g) n Q) : x_V S 119 204 L (.ref a :: st) (x_vm g) n Q := v_get (i := 9) cf9 d119_204 (by decide) w704 hs hp ha h
theorem s119_207 {S : Nat × (Nat → Int32)} {L : List (Option Value)} {st : List Value} {n : Nat} {Q : xQ} {μ : xM} {a : Nat} (hl : L[0]? = some (some (.ref a))) (h : x_V S 119 208 L (.ref a :: st) μ n Q) : x_V S 119 207 L (st) μ n Q := x_aload_n d119_207 hl h
theorem s119_207N {S : Nat × (Nat → Int32)} {L : List (Option Value)} {st : List Value} {n : Nat} {Q : xQ} {μ : xM} (hl : L[0]? = some (some .null)) (h : x_V S 119 208 L (.null :: st) μ n Q) : x_V S 119 207 L st μ n Q := x_aload_nN d119_207 hl h
theorem s119_208 {S : Nat × (Nat → Int32)} {L : List (Option Value)} {st : List Value} {n : Nat} {Q : xQ} {g : Nat → Nat → Int} {a : Nat} (hs : x_sh a = (9, 39)) (hp : x_pt a 26 = none) (ha : a ≠ x_out) (h : x_V S 119 211 L (.int (I (g a 26)) :: st) (x_vm g) n Q) : x_V S 119 208 L (.ref a :: st) (x_vm g) n Q := v_get (i := 26) cf9 d119_208 (by decide) w721 hs hp ha h
theorem s119_211 {S : Nat × (Nat → Int32)} {L : List (Option Value)} {st : List Value} {n : Nat} {Q : xQ} {μ : xM} {x y : Int} (hx : ib x) (hy : ib y) (kt : x ≤ y → x_V S 119 221 L (st) μ n Q) (kf : y < x → x_V S 119 214 L (st) μ n Q) : x_V S 119 211 L (.int (I y) :: .int (I x) :: st) μ n Q := v_icmp_le d119_211 (by decide) hx hy kt kf
theorem s119_214 {S : Nat × (Nat → Int32)} {L : List (Option Value)} {st : List Value} {n : Nat} {Q : xQ} {μ : xM} {a : Nat} (hl : L[0]? = some (some (.ref a))) (h : x_V S 119 215 L (.ref a :: st) μ n Q) : x_V S 119 214 L (st) μ n Q := x_aload_n d119_214 hl h
theorem s119_214N {S : Nat × (Nat → Int32)} {L : List (Option Value)} {st : List Value} {n : Nat} {Q : xQ} {μ : xM} (hl : L[0]? = some (some .null)) (h : x_V S 119 215 L (.null :: st) μ n Q) : x_V S 119 214 L st μ n Q := x_aload_nN d119_214 hl h
theorem s119_215 {S : Nat × (Nat → Int32)} {L : List (Option Value)} {st : List Value} {n : Nat} {Q : xQ} {g : Nat → Nat → Int} {a : Nat} (hs : x_sh a = (9, 39)) (hp : x_pt a 9 = none) (ha : a ≠ x_out) (h : x_V S 119 218 L (.int (I (g a 9)) :: st) (x_vm g) n Q) : x_V S 119 215 L (.ref a :: st) (x_vm g) n Q := v_get (i := 9) cf9 d119_215 (by decide) w704 hs hp ha h
theorem s119_218 {S : Nat × (Nat → Int32)} {L : List (Option Value)} {st : List Value} {n : Nat} {Q : xQ} {μ : xM}  (h : x_V S 119 225 L (st) μ n Q) : x_V S 119 218 L (st) μ n Q := x_goto (tgt := 225) (by decide) d119_218 h
theorem s119_221 {S : Nat × (Nat → Int32)} {L : List (Option Value)} {st : List Value} {n : Nat} {Q : xQ} {μ : xM} {a : Nat} (hl : L[0]? = some (some (.ref a))) (h : x_V S 119 222 L (.ref a :: st) μ n Q) : x_V S 119 221 L (st) μ n Q := x_aload_n d119_221 hl h
theorem s119_221N {S : Nat × (Nat → Int32)} {L : List (Option Value)} {st : List Value} {n : Nat} {Q : xQ} {μ : xM} (hl : L[0]? = some (some .null)) (h : x_V S 119 222 L (.null :: st) μ n Q) : x_V S 119 221 L st μ n Q := x_aload_nN d119_221 hl h
theorem s119_222 {S : Nat × (Nat → Int32)} {L : List (Option Value)} {st : List Value} {n : Nat} {Q : xQ} {g : Nat → Nat → Int} {a : Nat} (hs : x_sh a = (9, 39)) (hp : x_pt a 26 = none) (ha : a ≠ x_out) (h : x_V S 119 225 L (.int (I (g a 26)) :: st) (x_vm g) n Q) : x_V S 119 222 L (.ref a :: st) (x_vm g) n Q := v_get (i := 26) cf9 d119_222 (by decide) w721 hs hp ha h
theorem s119_225 {S : Nat × (Nat → Int32)} {L : List (Option Value)} {st : List Value} {n : Nat} {Q : xQ} {g : Nat → Nat → Int} {a : Nat} {x : Int} (hs : x_sh a = (9, 39)) (hp : x_pt a 26 = none) (ha : a ≠ x_out) (h : x_V S 119 228 L (st) (x_vm (x_uf g a 26 x)) n Q) : x_V S 119 225 L (.int (I x) :: .ref a :: st) (x_vm g) n Q := v_put (i := 26) cf9 d119_225 (by decide) rfl w721 hs rfl hp ha h
theorem s119_228 {S : Nat × (Nat → Int32)} {L : List (Option Value)} {st : List Value} {n : Nat} {Q : xQ} {μ : xM}  (h : x_V S 119 229 L (.int (I 3) :: st) μ n Q) : x_V S 119 228 L (st) μ n Q := x_iconst (by decide +kernel) d119_228 h
theorem s119_229 {S : Nat × (Nat → Int32)} {L : List (Option Value)} {st : List Value} {n : Nat} {Q : xQ} {μ : xM} {x : Int32} (h : Q (.inl (some (.int x))) μ n) : x_V S 119 229 L (.int x :: []) μ n Q := x_ireturn d119_229 rfl rfl h
theorem s119_230 {S : Nat × (Nat → Int32)} {L : List (Option Value)} {st : List Value} {n : Nat} {Q : xQ} {μ : xM} {a : Nat} (hl : L[0]? = some (some (.ref a))) (h : x_V S 119 231 L (.ref a :: st) μ n Q) : x_V S 119 230 L (st) μ n Q := x_aload_n d119_230 hl h
theorem s119_230N {S : Nat × (Nat → Int32)} {L : List (Option Value)} {st : List Value} {n : Nat} {Q : xQ} {μ : xM} (hl : L[0]? = some (some .null)) (h : x_V S 119 231 L (.null :: st) μ n Q) : x_V S 119 230 L st μ n Q := x_aload_nN d119_230 hl h
theorem s119_231 {S : Nat × (Nat → Int32)} {L : List (Option Value)} {st : List Value} {n : Nat} {Q : xQ} {μ : xM} {v : Value} (hc : v.category = 1) (h : x_V S 119 232 L (v :: v :: st) μ n Q) : x_V S 119 231 L (v :: st) μ n Q := x_dup hc d119_231 h
theorem s119_232 {S : Nat × (Nat → Int32)} {L : List (Option Value)} {st : List Value} {n : Nat} {Q : xQ} {g : Nat → Nat → Int} {a : Nat} (hs : x_sh a = (9, 39)) (hp : x_pt a 20 = none) (ha : a ≠ x_out) (h : x_V S 119 235 L (.int (I (g a 20)) :: st) (x_vm g) n Q) : x_V S 119 232 L (.ref a :: st) (x_vm g) n Q := v_get (i := 20) cf9 d119_232 (by decide) w715 hs hp ha h
theorem s119_235 {S : Nat × (Nat → Int32)} {L : List (Option Value)} {st : List Value} {n : Nat} {Q : xQ} {μ : xM}  (h : x_V S 119 236 L (.int (I 1) :: st) μ n Q) : x_V S 119 235 L (st) μ n Q := x_iconst (by decide +kernel) d119_235 h
theorem s119_236 {S : Nat × (Nat → Int32)} {L : List (Option Value)} {st : List Value} {n : Nat} {Q : xQ} {μ : xM} {x y : Int} (h : x_V S 119 237 L (.int (I (x + y)) :: st) μ n Q) : x_V S 119 236 L (.int (I y) :: .int (I x) :: st) μ n Q := v_iadd d119_236 h
theorem s119_237 {S : Nat × (Nat → Int32)} {L : List (Option Value)} {st : List Value} {n : Nat} {Q : xQ} {g : Nat → Nat → Int} {a : Nat} {x : Int} (hs : x_sh a = (9, 39)) (hp : x_pt a 20 = none) (ha : a ≠ x_out) (h : x_V S 119 240 L (st) (x_vm (x_uf g a 20 x)) n Q) : x_V S 119 237 L (.int (I x) :: .ref a :: st) (x_vm g) n Q := v_put (i := 20) cf9 d119_237 (by decide) rfl w715 hs rfl hp ha h
theorem s119_240 {S : Nat × (Nat → Int32)} {L : List (Option Value)} {st : List Value} {n : Nat} {Q : xQ} {μ : xM} {a : Nat} (hl : L[0]? = some (some (.ref a))) (h : x_V S 119 241 L (.ref a :: st) μ n Q) : x_V S 119 240 L (st) μ n Q := x_aload_n d119_240 hl h
theorem s119_240N {S : Nat × (Nat → Int32)} {L : List (Option Value)} {st : List Value} {n : Nat} {Q : xQ} {μ : xM} (hl : L[0]? = some (some .null)) (h : x_V S 119 241 L (.null :: st) μ n Q) : x_V S 119 240 L st μ n Q := x_aload_nN d119_240 hl h
theorem s119_241 {S : Nat × (Nat → Int32)} {L : List (Option Value)} {st : List Value} {n : Nat} {Q : xQ} {g : Nat → Nat → Int} {a : Nat} (hs : x_sh a = (9, 39)) (hp : x_pt a 8 = none) (ha : a ≠ x_out) (h : x_V S 119 244 L (.int (I (g a 8)) :: st) (x_vm g) n Q) : x_V S 119 241 L (.ref a :: st) (x_vm g) n Q := v_get (i := 8) cf9 d119_241 (by decide) w703 hs hp ha h
theorem s119_244 {S : Nat × (Nat → Int32)} {L : List (Option Value)} {st : List Value} {n : Nat} {Q : xQ} {μ : xM}  (h : x_V S 119 246 L (.int (I 49) :: st) μ n Q) : x_V S 119 244 L (st) μ n Q := x_bipush (by decide +kernel) d119_244 h
theorem s119_246 {S : Nat × (Nat → Int32)} {L : List (Option Value)} {st : List Value} {n : Nat} {Q : xQ} {μ : xM} {x y : Int} (hx : ib x) (hy : ib y) (kt : x ≠ y → x_V S 119 262 L (st) μ n Q) (kf : x = y → x_V S 119 249 L (st) μ n Q) : x_V S 119 246 L (.int (I y) :: .int (I x) :: st) μ n Q := v_icmp_ne d119_246 (by decide) hx hy kt kf
theorem s119_249 {S : Nat × (Nat → Int32)} {L : List (Option Value)} {st : List Value} {n : Nat} {Q : xQ} {μ : xM} {a : Nat} (hl : L[0]? = some (some (.ref a))) (h : x_V S 119 250 L (.ref a :: st) μ n Q) : x_V S 119 249 L (st) μ n Q := x_aload_n d119_249 hl h
theorem s119_249N {S : Nat × (Nat → Int32)} {L : List (Option Value)} {st : List Value} {n : Nat} {Q : xQ} {μ : xM} (hl : L[0]? = some (some .null)) (h : x_V S 119 250 L (.null :: st) μ n Q) : x_V S 119 249 L st μ n Q := x_aload_nN d119_249 hl h
theorem s119_250 {S : Nat × (Nat → Int32)} {L : List (Option Value)} {st : List Value} {n : Nat} {Q : xQ} {μ : xM}  (h : x_V S 119 252 L (.int (I 48) :: st) μ n Q) : x_V S 119 250 L (st) μ n Q := x_bipush (by decide +kernel) d119_250 h
theorem s119_252 {S : Nat × (Nat → Int32)} {L : List (Option Value)} {st : List Value} {n : Nat} {Q : xQ} {μ : xM} {a : Nat} (hl : L[0]? = some (some (.ref a))) (h : x_V S 119 253 L (.ref a :: st) μ n Q) : x_V S 119 252 L (st) μ n Q := x_aload_n d119_252 hl h
theorem s119_252N {S : Nat × (Nat → Int32)} {L : List (Option Value)} {st : List Value} {n : Nat} {Q : xQ} {μ : xM} (hl : L[0]? = some (some .null)) (h : x_V S 119 253 L (.null :: st) μ n Q) : x_V S 119 252 L st μ n Q := x_aload_nN d119_252 hl h
theorem s119_253 {S : Nat × (Nat → Int32)} {L : List (Option Value)} {st : List Value} {n : Nat} {Q : xQ} {g : Nat → Nat → Int} {a : Nat} (hs : x_sh a = (9, 39)) (hp : x_pt a 10 = none) (ha : a ≠ x_out) (h : x_V S 119 256 L (.int (I (g a 10)) :: st) (x_vm g) n Q) : x_V S 119 253 L (.ref a :: st) (x_vm g) n Q := v_get (i := 10) cf9 d119_253 (by decide) w705 hs hp ha h
theorem s119_256 {S : Nat × (Nat → Int32)} {L : List (Option Value)} {st : List Value} {n : Nat} {Q : xQ} {μ : xM}  (h : x_V S 119 257 L (.int (I 0) :: st) μ n Q) : x_V S 119 256 L (st) μ n Q := x_iconst (by decide +kernel) d119_256 h
theorem s119_257 {S : Nat × (Nat → Int32)} {L : List (Option Value)} {st : List Value} {n : Nat} {Q : xQ} {μ : xM}  (h : x_V S 119 258 L (.int (I 0) :: st) μ n Q) : x_V S 119 257 L (st) μ n Q := x_iconst (by decide +kernel) d119_257 h
theorem s119_258 {S : Nat × (Nat → Int32)} {L : List (Option Value)} {st : List Value} {n : Nat} {Q : xQ} {μ : xM}  (h : x_V S 119 259 L (.int (I 0) :: st) μ n Q) : x_V S 119 258 L (st) μ n Q := x_iconst (by decide +kernel) d119_258 h
theorem s119_259 {S : Nat × (Nat → Int32)} {L : List (Option Value)} {st : List Value} {n : Nat} {Q : xQ} {μ : xM} {x0 : Int32} {x1 : Int32} {x2 : Int32} {x3 : Int32} {x4 : Int32} {a : Nat} (hs : x_sh a = (9, 39)) (hst : st.length ≤ 4) (h : x_V S 98 0 [some (.ref a), some (.int x0), some (.int x1), some (.int x2), some (.int x3), some (.int x4)] [] μ n (x_bk S 119 259 L st Q)) : x_V S 119 259 L (.int x4 :: .int x3 :: .int x2 :: .int x1 :: .int x0 :: .ref a :: st) μ n Q := x_callV (k' := 98) (as := [.int x0, .int x1, .int x2, .int x3, .int x4]) (na := 5) d119_259 ⟨w916, by decide +kernel, by decide, by decide, by decide, by decide, by decide⟩ cf9 w913 w915 wp39 (by decide +kernel) rfl hs (fun v hv => by
    simp only [List.mem_cons, List.not_mem_nil, or_false] at hv
    rcases hv with rfl | rfl | rfl | rfl | rfl <;> first | rfl | assumption) hst h
theorem s119_262 {S : Nat × (Nat → Int32)} {L : List (Option Value)} {st : List Value} {n : Nat} {Q : xQ} {μ : xM} {a : Nat} (hl : L[0]? = some (some (.ref a))) (h : x_V S 119 263 L (.ref a :: st) μ n Q) : x_V S 119 262 L (st) μ n Q := x_aload_n d119_262 hl h
theorem s119_262N {S : Nat × (Nat → Int32)} {L : List (Option Value)} {st : List Value} {n : Nat} {Q : xQ} {μ : xM} (hl : L[0]? = some (some .null)) (h : x_V S 119 263 L (.null :: st) μ n Q) : x_V S 119 262 L st μ n Q := x_aload_nN d119_262 hl h
theorem s119_263 {S : Nat × (Nat → Int32)} {L : List (Option Value)} {st : List Value} {n : Nat} {Q : xQ} {g : Nat → Nat → Int} {a : Nat} (hs : x_sh a = (9, 39)) (hp : x_pt a 8 = none) (ha : a ≠ x_out) (h : x_V S 119 266 L (.int (I (g a 8)) :: st) (x_vm g) n Q) : x_V S 119 263 L (.ref a :: st) (x_vm g) n Q := v_get (i := 8) cf9 d119_263 (by decide) w703 hs hp ha h
theorem s119_266 {S : Nat × (Nat → Int32)} {L : List (Option Value)} {st : List Value} {n : Nat} {Q : xQ} {μ : xM}  (h : x_V S 119 268 L (.int (I 50) :: st) μ n Q) : x_V S 119 266 L (st) μ n Q := x_bipush (by decide +kernel) d119_266 h
theorem s119_268 {S : Nat × (Nat → Int32)} {L : List (Option Value)} {st : List Value} {n : Nat} {Q : xQ} {μ : xM} {x y : Int} (hx : ib x) (hy : ib y) (kt : x ≠ y → x_V S 119 283 L (st) μ n Q) (kf : x = y → x_V S 119 271 L (st) μ n Q) : x_V S 119 268 L (.int (I y) :: .int (I x) :: st) μ n Q := v_icmp_ne d119_268 (by decide) hx hy kt kf
theorem s119_271 {S : Nat × (Nat → Int32)} {L : List (Option Value)} {st : List Value} {n : Nat} {Q : xQ} {μ : xM} {a : Nat} (hl : L[0]? = some (some (.ref a))) (h : x_V S 119 272 L (.ref a :: st) μ n Q) : x_V S 119 271 L (st) μ n Q := x_aload_n d119_271 hl h
theorem s119_271N {S : Nat × (Nat → Int32)} {L : List (Option Value)} {st : List Value} {n : Nat} {Q : xQ} {μ : xM} (hl : L[0]? = some (some .null)) (h : x_V S 119 272 L (.null :: st) μ n Q) : x_V S 119 271 L st μ n Q := x_aload_nN d119_271 hl h
theorem s119_272 {S : Nat × (Nat → Int32)} {L : List (Option Value)} {st : List Value} {n : Nat} {Q : xQ} {μ : xM} {a : Nat} (hl : L[0]? = some (some (.ref a))) (h : x_V S 119 273 L (.ref a :: st) μ n Q) : x_V S 119 272 L (st) μ n Q := x_aload_n d119_272 hl h
theorem s119_272N {S : Nat × (Nat → Int32)} {L : List (Option Value)} {st : List Value} {n : Nat} {Q : xQ} {μ : xM} (hl : L[0]? = some (some .null)) (h : x_V S 119 273 L (.null :: st) μ n Q) : x_V S 119 272 L st μ n Q := x_aload_nN d119_272 hl h
theorem s119_273 {S : Nat × (Nat → Int32)} {L : List (Option Value)} {st : List Value} {n : Nat} {Q : xQ} {g : Nat → Nat → Int} {a : Nat} (hs : x_sh a = (9, 39)) (hp : x_pt a 10 = none) (ha : a ≠ x_out) (h : x_V S 119 276 L (.int (I (g a 10)) :: st) (x_vm g) n Q) : x_V S 119 273 L (.ref a :: st) (x_vm g) n Q := v_get (i := 10) cf9 d119_273 (by decide) w705 hs hp ha h
theorem s119_276 {S : Nat × (Nat → Int32)} {L : List (Option Value)} {st : List Value} {n : Nat} {Q : xQ} {μ : xM} {a : Nat} (hl : L[0]? = some (some (.ref a))) (h : x_V S 119 277 L (.ref a :: st) μ n Q) : x_V S 119 276 L (st) μ n Q := x_aload_n d119_276 hl h
theorem s119_276N {S : Nat × (Nat → Int32)} {L : List (Option Value)} {st : List Value} {n : Nat} {Q : xQ} {μ : xM} (hl : L[0]? = some (some .null)) (h : x_V S 119 277 L (.null :: st) μ n Q) : x_V S 119 276 L st μ n Q := x_aload_nN d119_276 hl h
theorem s119_277 {S : Nat × (Nat → Int32)} {L : List (Option Value)} {st : List Value} {n : Nat} {Q : xQ} {g : Nat → Nat → Int} {a : Nat} (hs : x_sh a = (9, 39)) (hp : x_pt a 11 = none) (ha : a ≠ x_out) (h : x_V S 119 280 L (.int (I (g a 11)) :: st) (x_vm g) n Q) : x_V S 119 277 L (.ref a :: st) (x_vm g) n Q := v_get (i := 11) cf9 d119_277 (by decide) w706 hs hp ha h
theorem s119_280 {S : Nat × (Nat → Int32)} {L : List (Option Value)} {st : List Value} {n : Nat} {Q : xQ} {μ : xM} {x0 : Int32} {x1 : Int32} {a : Nat} (hs : x_sh a = (9, 39)) (hst : st.length ≤ 4) (h : x_V S 101 0 [some (.ref a), some (.int x0), some (.int x1), none, none, none] [] μ n (x_bk S 119 280 L st Q)) : x_V S 119 280 L (.int x1 :: .int x0 :: .ref a :: st) μ n Q := x_callV (k' := 101) (as := [.int x0, .int x1]) (na := 2) d119_280 ⟨w924, by decide +kernel, by decide, by decide, by decide, by decide, by decide⟩ cf9 w921 w923 wp41 (by decide +kernel) rfl hs (fun v hv => by
    simp only [List.mem_cons, List.not_mem_nil, or_false] at hv
    rcases hv with rfl | rfl <;> first | rfl | assumption) hst h
theorem s119_283 {S : Nat × (Nat → Int32)} {L : List (Option Value)} {st : List Value} {n : Nat} {Q : xQ} {μ : xM} {a : Nat} (hl : L[0]? = some (some (.ref a))) (h : x_V S 119 284 L (.ref a :: st) μ n Q) : x_V S 119 283 L (st) μ n Q := x_aload_n d119_283 hl h
theorem s119_283N {S : Nat × (Nat → Int32)} {L : List (Option Value)} {st : List Value} {n : Nat} {Q : xQ} {μ : xM} (hl : L[0]? = some (some .null)) (h : x_V S 119 284 L (.null :: st) μ n Q) : x_V S 119 283 L st μ n Q := x_aload_nN d119_283 hl h
theorem s119_284 {S : Nat × (Nat → Int32)} {L : List (Option Value)} {st : List Value} {n : Nat} {Q : xQ} {g : Nat → Nat → Int} {a : Nat} (hs : x_sh a = (9, 39)) (hp : x_pt a 8 = none) (ha : a ≠ x_out) (h : x_V S 119 287 L (.int (I (g a 8)) :: st) (x_vm g) n Q) : x_V S 119 284 L (.ref a :: st) (x_vm g) n Q := v_get (i := 8) cf9 d119_284 (by decide) w703 hs hp ha h
theorem s119_287 {S : Nat × (Nat → Int32)} {L : List (Option Value)} {st : List Value} {n : Nat} {Q : xQ} {μ : xM}  (h : x_V S 119 289 L (.int (I 52) :: st) μ n Q) : x_V S 119 287 L (st) μ n Q := x_bipush (by decide +kernel) d119_287 h
theorem s119_289 {S : Nat × (Nat → Int32)} {L : List (Option Value)} {st : List Value} {n : Nat} {Q : xQ} {μ : xM} {x y : Int} (hx : ib x) (hy : ib y) (kt : x ≠ y → x_V S 119 311 L (st) μ n Q) (kf : x = y → x_V S 119 292 L (st) μ n Q) : x_V S 119 289 L (.int (I y) :: .int (I x) :: st) μ n Q := v_icmp_ne d119_289 (by decide) hx hy kt kf
theorem s119_292 {S : Nat × (Nat → Int32)} {L : List (Option Value)} {st : List Value} {n : Nat} {Q : xQ} {μ : xM} {a : Nat} (hl : L[0]? = some (some (.ref a))) (h : x_V S 119 293 L (.ref a :: st) μ n Q) : x_V S 119 292 L (st) μ n Q := x_aload_n d119_292 hl h
theorem s119_292N {S : Nat × (Nat → Int32)} {L : List (Option Value)} {st : List Value} {n : Nat} {Q : xQ} {μ : xM} (hl : L[0]? = some (some .null)) (h : x_V S 119 293 L (.null :: st) μ n Q) : x_V S 119 292 L st μ n Q := x_aload_nN d119_292 hl h
theorem s119_293 {S : Nat × (Nat → Int32)} {L : List (Option Value)} {st : List Value} {n : Nat} {Q : xQ} {g : Nat → Nat → Int} {a : Nat} (hs : x_sh a = (9, 39)) (hp : x_pt a 10 = none) (ha : a ≠ x_out) (h : x_V S 119 296 L (.int (I (g a 10)) :: st) (x_vm g) n Q) : x_V S 119 293 L (.ref a :: st) (x_vm g) n Q := v_get (i := 10) cf9 d119_293 (by decide) w705 hs hp ha h
theorem s119_296 {S : Nat × (Nat → Int32)} {L : List (Option Value)} {st : List Value} {n : Nat} {Q : xQ} {μ : xM} {a : Nat} (hl : L[0]? = some (some (.ref a))) (h : x_V S 119 297 L (.ref a :: st) μ n Q) : x_V S 119 296 L (st) μ n Q := x_aload_n d119_296 hl h
theorem s119_296N {S : Nat × (Nat → Int32)} {L : List (Option Value)} {st : List Value} {n : Nat} {Q : xQ} {μ : xM} (hl : L[0]? = some (some .null)) (h : x_V S 119 297 L (.null :: st) μ n Q) : x_V S 119 296 L st μ n Q := x_aload_nN d119_296 hl h
theorem s119_297 {S : Nat × (Nat → Int32)} {L : List (Option Value)} {st : List Value} {n : Nat} {Q : xQ} {g : Nat → Nat → Int} {a : Nat} (hs : x_sh a = (9, 39)) (hp : x_pt a 20 = none) (ha : a ≠ x_out) (h : x_V S 119 300 L (.int (I (g a 20)) :: st) (x_vm g) n Q) : x_V S 119 297 L (.ref a :: st) (x_vm g) n Q := v_get (i := 20) cf9 d119_297 (by decide) w715 hs hp ha h
theorem s119_300 {S : Nat × (Nat → Int32)} {L : List (Option Value)} {st : List Value} {n : Nat} {Q : xQ} {μ : xM} {x y : Int} (hx : ib x) (hy : ib y) (kt : x ≤ y → x_V S 119 311 L (st) μ n Q) (kf : y < x → x_V S 119 303 L (st) μ n Q) : x_V S 119 300 L (.int (I y) :: .int (I x) :: st) μ n Q := v_icmp_le d119_300 (by decide) hx hy kt kf
theorem s119_303 {S : Nat × (Nat → Int32)} {L : List (Option Value)} {st : List Value} {n : Nat} {Q : xQ} {μ : xM} {a : Nat} (hl : L[0]? = some (some (.ref a))) (h : x_V S 119 304 L (.ref a :: st) μ n Q) : x_V S 119 303 L (st) μ n Q := x_aload_n d119_303 hl h
theorem s119_303N {S : Nat × (Nat → Int32)} {L : List (Option Value)} {st : List Value} {n : Nat} {Q : xQ} {μ : xM} (hl : L[0]? = some (some .null)) (h : x_V S 119 304 L (.null :: st) μ n Q) : x_V S 119 303 L st μ n Q := x_aload_nN d119_303 hl h
theorem s119_304 {S : Nat × (Nat → Int32)} {L : List (Option Value)} {st : List Value} {n : Nat} {Q : xQ} {μ : xM} {a : Nat} (hl : L[0]? = some (some (.ref a))) (h : x_V S 119 305 L (.ref a :: st) μ n Q) : x_V S 119 304 L (st) μ n Q := x_aload_n d119_304 hl h
theorem s119_304N {S : Nat × (Nat → Int32)} {L : List (Option Value)} {st : List Value} {n : Nat} {Q : xQ} {μ : xM} (hl : L[0]? = some (some .null)) (h : x_V S 119 305 L (.null :: st) μ n Q) : x_V S 119 304 L st μ n Q := x_aload_nN d119_304 hl h
theorem s119_305 {S : Nat × (Nat → Int32)} {L : List (Option Value)} {st : List Value} {n : Nat} {Q : xQ} {g : Nat → Nat → Int} {a : Nat} (hs : x_sh a = (9, 39)) (hp : x_pt a 10 = none) (ha : a ≠ x_out) (h : x_V S 119 308 L (.int (I (g a 10)) :: st) (x_vm g) n Q) : x_V S 119 305 L (.ref a :: st) (x_vm g) n Q := v_get (i := 10) cf9 d119_305 (by decide) w705 hs hp ha h
theorem s119_308 {S : Nat × (Nat → Int32)} {L : List (Option Value)} {st : List Value} {n : Nat} {Q : xQ} {g : Nat → Nat → Int} {a : Nat} {x : Int} (hs : x_sh a = (9, 39)) (hp : x_pt a 20 = none) (ha : a ≠ x_out) (h : x_V S 119 311 L (st) (x_vm (x_uf g a 20 x)) n Q) : x_V S 119 308 L (.int (I x) :: .ref a :: st) (x_vm g) n Q := v_put (i := 20) cf9 d119_308 (by decide) rfl w715 hs rfl hp ha h
theorem s119_311 {S : Nat × (Nat → Int32)} {L : List (Option Value)} {st : List Value} {n : Nat} {Q : xQ} {μ : xM} {a : Nat} (hl : L[0]? = some (some (.ref a))) (h : x_V S 119 312 L (.ref a :: st) μ n Q) : x_V S 119 311 L (st) μ n Q := x_aload_n d119_311 hl h
theorem s119_311N {S : Nat × (Nat → Int32)} {L : List (Option Value)} {st : List Value} {n : Nat} {Q : xQ} {μ : xM} (hl : L[0]? = some (some .null)) (h : x_V S 119 312 L (.null :: st) μ n Q) : x_V S 119 311 L st μ n Q := x_aload_nN d119_311 hl h
theorem s119_312 {S : Nat × (Nat → Int32)} {L : List (Option Value)} {st : List Value} {n : Nat} {Q : xQ} {g : Nat → Nat → Int} {a : Nat} (hs : x_sh a = (9, 39)) (hp : x_pt a 8 = none) (ha : a ≠ x_out) (h : x_V S 119 315 L (.int (I (g a 8)) :: st) (x_vm g) n Q) : x_V S 119 312 L (.ref a :: st) (x_vm g) n Q := v_get (i := 8) cf9 d119_312 (by decide) w703 hs hp ha h
theorem s119_315 {S : Nat × (Nat → Int32)} {L : List (Option Value)} {st : List Value} {n : Nat} {Q : xQ} {μ : xM}  (h : x_V S 119 317 L (.int (I 53) :: st) μ n Q) : x_V S 119 315 L (st) μ n Q := x_bipush (by decide +kernel) d119_315 h
theorem s119_317 {S : Nat × (Nat → Int32)} {L : List (Option Value)} {st : List Value} {n : Nat} {Q : xQ} {μ : xM} {x y : Int} (hx : ib x) (hy : ib y) (kt : x ≠ y → x_V S 119 324 L (st) μ n Q) (kf : x = y → x_V S 119 320 L (st) μ n Q) : x_V S 119 317 L (.int (I y) :: .int (I x) :: st) μ n Q := v_icmp_ne d119_317 (by decide) hx hy kt kf
theorem s119_320 {S : Nat × (Nat → Int32)} {L : List (Option Value)} {st : List Value} {n : Nat} {Q : xQ} {μ : xM} {a : Nat} (hl : L[0]? = some (some (.ref a))) (h : x_V S 119 321 L (.ref a :: st) μ n Q) : x_V S 119 320 L (st) μ n Q := x_aload_n d119_320 hl h
theorem s119_320N {S : Nat × (Nat → Int32)} {L : List (Option Value)} {st : List Value} {n : Nat} {Q : xQ} {μ : xM} (hl : L[0]? = some (some .null)) (h : x_V S 119 321 L (.null :: st) μ n Q) : x_V S 119 320 L st μ n Q := x_aload_nN d119_320 hl h
theorem s119_321 {S : Nat × (Nat → Int32)} {L : List (Option Value)} {st : List Value} {n : Nat} {Q : xQ} {μ : xM}  {a : Nat} (hs : x_sh a = (9, 39)) (hst : st.length ≤ 4) (h : x_V S 99 0 [some (.ref a)] [] μ n (x_bk S 119 321 L st Q)) : x_V S 119 321 L (.ref a :: st) μ n Q := x_callV (k' := 99) (as := []) (na := 0) d119_321 ⟨w912, by decide +kernel, by decide, by decide, by decide, by decide, by decide⟩ cf9 w909 w911 wp38 (by decide +kernel) rfl hs (fun v hv => by
    cases hv) hst h
theorem s119_324 {S : Nat × (Nat → Int32)} {L : List (Option Value)} {st : List Value} {n : Nat} {Q : xQ} {μ : xM} {a : Nat} (hl : L[0]? = some (some (.ref a))) (h : x_V S 119 325 L (.ref a :: st) μ n Q) : x_V S 119 324 L (st) μ n Q := x_aload_n d119_324 hl h
theorem s119_324N {S : Nat × (Nat → Int32)} {L : List (Option Value)} {st : List Value} {n : Nat} {Q : xQ} {μ : xM} (hl : L[0]? = some (some .null)) (h : x_V S 119 325 L (.null :: st) μ n Q) : x_V S 119 324 L st μ n Q := x_aload_nN d119_324 hl h
theorem s119_325 {S : Nat × (Nat → Int32)} {L : List (Option Value)} {st : List Value} {n : Nat} {Q : xQ} {g : Nat → Nat → Int} {a : Nat} (hs : x_sh a = (9, 39)) (hp : x_pt a 8 = none) (ha : a ≠ x_out) (h : x_V S 119 328 L (.int (I (g a 8)) :: st) (x_vm g) n Q) : x_V S 119 325 L (.ref a :: st) (x_vm g) n Q := v_get (i := 8) cf9 d119_325 (by decide) w703 hs hp ha h
theorem s119_328 {S : Nat × (Nat → Int32)} {L : List (Option Value)} {st : List Value} {n : Nat} {Q : xQ} {μ : xM}  (h : x_V S 119 330 L (.int (I 68) :: st) μ n Q) : x_V S 119 328 L (st) μ n Q := x_bipush (by decide +kernel) d119_328 h
theorem s119_330 {S : Nat × (Nat → Int32)} {L : List (Option Value)} {st : List Value} {n : Nat} {Q : xQ} {μ : xM} {x y : Int} (hx : ib x) (hy : ib y) (kt : x = y → x_V S 119 351 L (st) μ n Q) (kf : x ≠ y → x_V S 119 333 L (st) μ n Q) : x_V S 119 330 L (.int (I y) :: .int (I x) :: st) μ n Q := v_icmp_eq d119_330 (by decide) hx hy kt kf
theorem s119_333 {S : Nat × (Nat → Int32)} {L : List (Option Value)} {st : List Value} {n : Nat} {Q : xQ} {μ : xM} {a : Nat} (hl : L[0]? = some (some (.ref a))) (h : x_V S 119 334 L (.ref a :: st) μ n Q) : x_V S 119 333 L (st) μ n Q := x_aload_n d119_333 hl h
theorem s119_333N {S : Nat × (Nat → Int32)} {L : List (Option Value)} {st : List Value} {n : Nat} {Q : xQ} {μ : xM} (hl : L[0]? = some (some .null)) (h : x_V S 119 334 L (.null :: st) μ n Q) : x_V S 119 333 L st μ n Q := x_aload_nN d119_333 hl h
theorem s119_334 {S : Nat × (Nat → Int32)} {L : List (Option Value)} {st : List Value} {n : Nat} {Q : xQ} {g : Nat → Nat → Int} {a : Nat} (hs : x_sh a = (9, 39)) (hp : x_pt a 8 = none) (ha : a ≠ x_out) (h : x_V S 119 337 L (.int (I (g a 8)) :: st) (x_vm g) n Q) : x_V S 119 334 L (.ref a :: st) (x_vm g) n Q := v_get (i := 8) cf9 d119_334 (by decide) w703 hs hp ha h
theorem s119_337 {S : Nat × (Nat → Int32)} {L : List (Option Value)} {st : List Value} {n : Nat} {Q : xQ} {μ : xM}  (h : x_V S 119 339 L (.int (I 70) :: st) μ n Q) : x_V S 119 337 L (st) μ n Q := x_bipush (by decide +kernel) d119_337 h
theorem s119_339 {S : Nat × (Nat → Int32)} {L : List (Option Value)} {st : List Value} {n : Nat} {Q : xQ} {μ : xM} {x y : Int} (hx : ib x) (hy : ib y) (kt : x = y → x_V S 119 351 L (st) μ n Q) (kf : x ≠ y → x_V S 119 342 L (st) μ n Q) : x_V S 119 339 L (.int (I y) :: .int (I x) :: st) μ n Q := v_icmp_eq d119_339 (by decide) hx hy kt kf
theorem s119_342 {S : Nat × (Nat → Int32)} {L : List (Option Value)} {st : List Value} {n : Nat} {Q : xQ} {μ : xM} {a : Nat} (hl : L[0]? = some (some (.ref a))) (h : x_V S 119 343 L (.ref a :: st) μ n Q) : x_V S 119 342 L (st) μ n Q := x_aload_n d119_342 hl h
theorem s119_342N {S : Nat × (Nat → Int32)} {L : List (Option Value)} {st : List Value} {n : Nat} {Q : xQ} {μ : xM} (hl : L[0]? = some (some .null)) (h : x_V S 119 343 L (.null :: st) μ n Q) : x_V S 119 342 L st μ n Q := x_aload_nN d119_342 hl h
theorem s119_343 {S : Nat × (Nat → Int32)} {L : List (Option Value)} {st : List Value} {n : Nat} {Q : xQ} {g : Nat → Nat → Int} {a : Nat} (hs : x_sh a = (9, 39)) (hp : x_pt a 8 = none) (ha : a ≠ x_out) (h : x_V S 119 346 L (.int (I (g a 8)) :: st) (x_vm g) n Q) : x_V S 119 343 L (.ref a :: st) (x_vm g) n Q := v_get (i := 8) cf9 d119_343 (by decide) w703 hs hp ha h
theorem s119_346 {S : Nat × (Nat → Int32)} {L : List (Option Value)} {st : List Value} {n : Nat} {Q : xQ} {μ : xM}  (h : x_V S 119 348 L (.int (I 71) :: st) μ n Q) : x_V S 119 346 L (st) μ n Q := x_bipush (by decide +kernel) d119_346 h
theorem s119_348 {S : Nat × (Nat → Int32)} {L : List (Option Value)} {st : List Value} {n : Nat} {Q : xQ} {μ : xM} {x y : Int} (hx : ib x) (hy : ib y) (kt : x ≠ y → x_V S 119 355 L (st) μ n Q) (kf : x = y → x_V S 119 351 L (st) μ n Q) : x_V S 119 348 L (.int (I y) :: .int (I x) :: st) μ n Q := v_icmp_ne d119_348 (by decide) hx hy kt kf
theorem s119_351 {S : Nat × (Nat → Int32)} {L : List (Option Value)} {st : List Value} {n : Nat} {Q : xQ} {μ : xM} {a : Nat} (hl : L[0]? = some (some (.ref a))) (h : x_V S 119 352 L (.ref a :: st) μ n Q) : x_V S 119 351 L (st) μ n Q := x_aload_n d119_351 hl h
theorem s119_351N {S : Nat × (Nat → Int32)} {L : List (Option Value)} {st : List Value} {n : Nat} {Q : xQ} {μ : xM} (hl : L[0]? = some (some .null)) (h : x_V S 119 352 L (.null :: st) μ n Q) : x_V S 119 351 L st μ n Q := x_aload_nN d119_351 hl h
theorem s119_352 {S : Nat × (Nat → Int32)} {L : List (Option Value)} {st : List Value} {n : Nat} {Q : xQ} {μ : xM}  {a : Nat} (hs : x_sh a = (9, 39)) (hst : st.length ≤ 4) (h : x_V S 117 0 [some (.ref a), none] [] μ n (x_bk S 119 352 L st Q)) : x_V S 119 352 L (.ref a :: st) μ n Q := x_callV (k' := 117) (as := []) (na := 0) d119_352 ⟨w932, by decide +kernel, by decide, by decide, by decide, by decide, by decide⟩ cf9 w929 w931 wp43 (by decide +kernel) rfl hs (fun v hv => by
    cases hv) hst h
theorem s119_355 {S : Nat × (Nat → Int32)} {L : List (Option Value)} {st : List Value} {n : Nat} {Q : xQ} {μ : xM}  (h : x_V S 119 356 L (.int (I 2) :: st) μ n Q) : x_V S 119 355 L (st) μ n Q := x_iconst (by decide +kernel) d119_355 h
theorem s119_356 {S : Nat × (Nat → Int32)} {L : List (Option Value)} {st : List Value} {n : Nat} {Q : xQ} {μ : xM} {x : Int32} (h : Q (.inl (some (.int x))) μ n) : x_V S 119 356 L (.int x :: []) μ n Q := x_ireturn d119_356 rfl rfl h
theorem mC_120 : mC 120 = prog_12_method_38_code := rfl
theorem d120_0 : decode (mC 120) 0 = .ok (.aload_n 0, 1) := by rw [mC_120]; decide +kernel
theorem d120_1 : decode (mC 120) 1 = .ok (.iconst 0, 1) := by rw [mC_120]; decide +kernel
theorem d120_2 : decode (mC 120) 2 = .ok (.putfield 60, 3) := by rw [mC_120]; decide +kernel
theorem d120_5 : decode (mC 120) 5 = .ok (.aload_n 0, 1) := by rw [mC_120]; decide +kernel
theorem d120_6 : decode (mC 120) 6 = .ok (.getfield 146, 3) := by rw [mC_120]; decide +kernel
theorem d120_9 : decode (mC 120) 9 = .ok (.ifCond .ne 9, 3) := by rw [mC_120]; decide +kernel
theorem d120_12 : decode (mC 120) 12 = .ok (.aload_n 0, 1) := by rw [mC_120]; decide +kernel
theorem d120_13 : decode (mC 120) 13 = .ok (.iconst 1, 1) := by rw [mC_120]; decide +kernel
theorem d120_14 : decode (mC 120) 14 = .ok (.invokevirtual 143, 3) := by rw [mC_120]; decide +kernel
theorem d120_17 : decode (mC 120) 17 = .ok (.ireturn, 1) := by rw [mC_120]; decide +kernel
theorem d120_18 : decode (mC 120) 18 = .ok (.aload_n 0, 1) := by rw [mC_120]; decide +kernel
theorem d120_19 : decode (mC 120) 19 = .ok (.iconst 0, 1) := by rw [mC_120]; decide +kernel
theorem d120_20 : decode (mC 120) 20 = .ok (.putfield 146, 3) := by rw [mC_120]; decide +kernel
theorem d120_23 : decode (mC 120) 23 = .ok (.aload_n 0, 1) := by rw [mC_120]; decide +kernel
theorem d120_24 : decode (mC 120) 24 = .ok (.iconst 0, 1) := by rw [mC_120]; decide +kernel
theorem d120_25 : decode (mC 120) 25 = .ok (.putfield 70, 3) := by rw [mC_120]; decide +kernel
theorem d120_28 : decode (mC 120) 28 = .ok (.aload_n 0, 1) := by rw [mC_120]; decide +kernel
theorem d120_29 : decode (mC 120) 29 = .ok (.invokevirtual 232, 3) := by rw [mC_120]; decide +kernel
theorem d120_32 : decode (mC 120) 32 = .ok (.istore_n 1, 1) := by rw [mC_120]; decide +kernel
theorem d120_33 : decode (mC 120) 33 = .ok (.aload_n 0, 1) := by rw [mC_120]; decide +kernel
theorem d120_34 : decode (mC 120) 34 = .ok (.invokevirtual 235, 3) := by rw [mC_120]; decide +kernel
theorem d120_37 : decode (mC 120) 37 = .ok (.iload_n 1, 1) := by rw [mC_120]; decide +kernel
theorem d120_38 : decode (mC 120) 38 = .ok (.ireturn, 1) := by rw [mC_120]; decide +kernel
theorem s120_0 {S : Nat × (Nat → Int32)} {L : List (Option Value)} {st : List Value} {n : Nat} {Q : xQ} {μ : xM} {a : Nat} (hl : L[0]? = some (some (.ref a))) (h : x_V S 120 1 L (.ref a :: st) μ n Q) : x_V S 120 0 L (st) μ n Q := x_aload_n d120_0 hl h
theorem s120_0N {S : Nat × (Nat → Int32)} {L : List (Option Value)} {st : List Value} {n : Nat} {Q : xQ} {μ : xM} (hl : L[0]? = some (some .null)) (h : x_V S 120 1 L (.null :: st) μ n Q) : x_V S 120 0 L st μ n Q := x_aload_nN d120_0 hl h
theorem s120_1 {S : Nat × (Nat → Int32)} {L : List (Option Value)} {st : List Value} {n : Nat} {Q : xQ} {μ : xM}  (h : x_V S 120 2 L (.int (I 0) :: st) μ n Q) : x_V S 120 1 L (st) μ n Q := x_iconst (by decide +kernel) d120_1 h
theorem s120_2 {S : Nat × (Nat → Int32)} {L : List (Option Value)} {st : List Value} {n : Nat} {Q : xQ} {g : Nat → Nat → Int} {a : Nat} {x : Int} (hs : x_sh a = (9, 39)) (hp : x_pt a 0 = none) (ha : a ≠ x_out) (h : x_V S 120 5 L (st) (x_vm (x_uf g a 0 x)) n Q) : x_V S 120 2 L (.int (I x) :: .ref a :: st) (x_vm g) n Q := v_put (i := 0) cf9 d120_2 (by decide) rfl w695 hs rfl hp ha h
theorem s120_5 {S : Nat × (Nat → Int32)} {L : List (Option Value)} {st : List Value} {n : Nat} {Q : xQ} {μ : xM} {a : Nat} (hl : L[0]? = some (some (.ref a))) (h : x_V S 120 6 L (.ref a :: st) μ n Q) : x_V S 120 5 L (st) μ n Q := x_aload_n d120_5 hl h
theorem s120_5N {S : Nat × (Nat → Int32)} {L : List (Option Value)} {st : List Value} {n : Nat} {Q : xQ} {μ : xM} (hl : L[0]? = some (some .null)) (h : x_V S 120 6 L (.null :: st) μ n Q) : x_V S 120 5 L st μ n Q := x_aload_nN d120_5 hl h
theorem s120_6 {S : Nat × (Nat → Int32)} {L : List (Option Value)} {st : List Value} {n : Nat} {Q : xQ} {g : Nat → Nat → Int} {a : Nat} (hs : x_sh a = (9, 39)) (hp : x_pt a 1 = none) (ha : a ≠ x_out) (h : x_V S 120 9 L (.int (I (g a 1)) :: st) (x_vm g) n Q) : x_V S 120 6 L (.ref a :: st) (x_vm g) n Q := v_get (i := 1) cf9 d120_6 (by decide) w696 hs hp ha h
theorem s120_9 {S : Nat × (Nat → Int32)} {L : List (Option Value)} {st : List Value} {n : Nat} {Q : xQ} {μ : xM} {x : Int} (hx : ib x) (kt : x ≠ 0 → x_V S 120 18 L (st) μ n Q) (kf : x = 0 → x_V S 120 12 L (st) μ n Q) : x_V S 120 9 L (.int (I x) :: st) μ n Q := v_if_ne d120_9 (by decide) hx kt kf
theorem s120_12 {S : Nat × (Nat → Int32)} {L : List (Option Value)} {st : List Value} {n : Nat} {Q : xQ} {μ : xM} {a : Nat} (hl : L[0]? = some (some (.ref a))) (h : x_V S 120 13 L (.ref a :: st) μ n Q) : x_V S 120 12 L (st) μ n Q := x_aload_n d120_12 hl h
theorem s120_12N {S : Nat × (Nat → Int32)} {L : List (Option Value)} {st : List Value} {n : Nat} {Q : xQ} {μ : xM} (hl : L[0]? = some (some .null)) (h : x_V S 120 13 L (.null :: st) μ n Q) : x_V S 120 12 L st μ n Q := x_aload_nN d120_12 hl h
theorem s120_13 {S : Nat × (Nat → Int32)} {L : List (Option Value)} {st : List Value} {n : Nat} {Q : xQ} {μ : xM}  (h : x_V S 120 14 L (.int (I 1) :: st) μ n Q) : x_V S 120 13 L (st) μ n Q := x_iconst (by decide +kernel) d120_13 h
theorem s120_14 {S : Nat × (Nat → Int32)} {L : List (Option Value)} {st : List Value} {n : Nat} {Q : xQ} {μ : xM} {x0 : Int32} {a : Nat} (hs : x_sh a = (9, 39)) (hst : st.length ≤ 4) (h : x_V S 85 0 [some (.ref a), some (.int x0)] [] μ n (x_bk S 120 14 L st Q)) : x_V S 120 14 L (.int x0 :: .ref a :: st) μ n Q := x_callV (k' := 85) (as := [.int x0]) (na := 1) d120_14 ⟨w832, by decide +kernel, by decide, by decide, by decide, by decide, by decide⟩ cf9 w829 w831 wp24 (by decide +kernel) rfl hs (fun v hv => by
    simp only [List.mem_cons, List.not_mem_nil, or_false] at hv
    rcases hv with rfl <;> first | rfl | assumption) hst h
theorem s120_17 {S : Nat × (Nat → Int32)} {L : List (Option Value)} {st : List Value} {n : Nat} {Q : xQ} {μ : xM} {x : Int32} (h : Q (.inl (some (.int x))) μ n) : x_V S 120 17 L (.int x :: []) μ n Q := x_ireturn d120_17 rfl rfl h
theorem s120_18 {S : Nat × (Nat → Int32)} {L : List (Option Value)} {st : List Value} {n : Nat} {Q : xQ} {μ : xM} {a : Nat} (hl : L[0]? = some (some (.ref a))) (h : x_V S 120 19 L (.ref a :: st) μ n Q) : x_V S 120 18 L (st) μ n Q := x_aload_n d120_18 hl h
theorem s120_18N {S : Nat × (Nat → Int32)} {L : List (Option Value)} {st : List Value} {n : Nat} {Q : xQ} {μ : xM} (hl : L[0]? = some (some .null)) (h : x_V S 120 19 L (.null :: st) μ n Q) : x_V S 120 18 L st μ n Q := x_aload_nN d120_18 hl h
theorem s120_19 {S : Nat × (Nat → Int32)} {L : List (Option Value)} {st : List Value} {n : Nat} {Q : xQ} {μ : xM}  (h : x_V S 120 20 L (.int (I 0) :: st) μ n Q) : x_V S 120 19 L (st) μ n Q := x_iconst (by decide +kernel) d120_19 h
theorem s120_20 {S : Nat × (Nat → Int32)} {L : List (Option Value)} {st : List Value} {n : Nat} {Q : xQ} {g : Nat → Nat → Int} {a : Nat} {x : Int} (hs : x_sh a = (9, 39)) (hx : x = 0 ∨ x = 1) (hp : x_pt a 1 = none) (ha : a ≠ x_out) (h : x_V S 120 23 L (st) (x_vm (x_uf g a 1 x)) n Q) : x_V S 120 20 L (.int (I x) :: .ref a :: st) (x_vm g) n Q := v_putz (i := 1) cf9 d120_20 (by decide) rfl w696 hs rfl hx hp ha h
theorem s120_23 {S : Nat × (Nat → Int32)} {L : List (Option Value)} {st : List Value} {n : Nat} {Q : xQ} {μ : xM} {a : Nat} (hl : L[0]? = some (some (.ref a))) (h : x_V S 120 24 L (.ref a :: st) μ n Q) : x_V S 120 23 L (st) μ n Q := x_aload_n d120_23 hl h
theorem s120_23N {S : Nat × (Nat → Int32)} {L : List (Option Value)} {st : List Value} {n : Nat} {Q : xQ} {μ : xM} (hl : L[0]? = some (some .null)) (h : x_V S 120 24 L (.null :: st) μ n Q) : x_V S 120 23 L st μ n Q := x_aload_nN d120_23 hl h
theorem s120_24 {S : Nat × (Nat → Int32)} {L : List (Option Value)} {st : List Value} {n : Nat} {Q : xQ} {μ : xM}  (h : x_V S 120 25 L (.int (I 0) :: st) μ n Q) : x_V S 120 24 L (st) μ n Q := x_iconst (by decide +kernel) d120_24 h
theorem s120_25 {S : Nat × (Nat → Int32)} {L : List (Option Value)} {st : List Value} {n : Nat} {Q : xQ} {g : Nat → Nat → Int} {a : Nat} {x : Int} (hs : x_sh a = (9, 39)) (hp : x_pt a 15 = none) (ha : a ≠ x_out) (h : x_V S 120 28 L (st) (x_vm (x_uf g a 15 x)) n Q) : x_V S 120 25 L (.int (I x) :: .ref a :: st) (x_vm g) n Q := v_put (i := 15) cf9 d120_25 (by decide) rfl w710 hs rfl hp ha h
theorem s120_28 {S : Nat × (Nat → Int32)} {L : List (Option Value)} {st : List Value} {n : Nat} {Q : xQ} {μ : xM} {a : Nat} (hl : L[0]? = some (some (.ref a))) (h : x_V S 120 29 L (.ref a :: st) μ n Q) : x_V S 120 28 L (st) μ n Q := x_aload_n d120_28 hl h
theorem s120_28N {S : Nat × (Nat → Int32)} {L : List (Option Value)} {st : List Value} {n : Nat} {Q : xQ} {μ : xM} (hl : L[0]? = some (some .null)) (h : x_V S 120 29 L (.null :: st) μ n Q) : x_V S 120 28 L st μ n Q := x_aload_nN d120_28 hl h
theorem s120_29 {S : Nat × (Nat → Int32)} {L : List (Option Value)} {st : List Value} {n : Nat} {Q : xQ} {μ : xM}  {a : Nat} (hs : x_sh a = (9, 39)) (hst : st.length ≤ 4) (h : x_V S 119 0 [some (.ref a)] [] μ n (x_bk S 120 29 L st Q)) : x_V S 120 29 L (.ref a :: st) μ n Q := x_callV (k' := 119) (as := []) (na := 0) d120_29 ⟨w885, by decide +kernel, by decide, by decide, by decide, by decide, by decide⟩ cf9 w882 w884 wp32 (by decide +kernel) rfl hs (fun v hv => by
    cases hv) hst h
theorem s120_32 {S : Nat × (Nat → Int32)} {L : List (Option Value)} {st : List Value} {n : Nat} {Q : xQ} {μ : xM} {x : Int32} (h : x_V S 120 33 (L.set 1 (some (.int x))) (st) μ n Q) : x_V S 120 32 L (.int x :: st) μ n Q := x_istore_n d120_32 (by decide) h
theorem s120_33 {S : Nat × (Nat → Int32)} {L : List (Option Value)} {st : List Value} {n : Nat} {Q : xQ} {μ : xM} {a : Nat} (hl : L[0]? = some (some (.ref a))) (h : x_V S 120 34 L (.ref a :: st) μ n Q) : x_V S 120 33 L (st) μ n Q := x_aload_n d120_33 hl h
theorem s120_33N {S : Nat × (Nat → Int32)} {L : List (Option Value)} {st : List Value} {n : Nat} {Q : xQ} {μ : xM} (hl : L[0]? = some (some .null)) (h : x_V S 120 34 L (.null :: st) μ n Q) : x_V S 120 33 L st μ n Q := x_aload_nN d120_33 hl h
theorem s120_34 {S : Nat × (Nat → Int32)} {L : List (Option Value)} {st : List Value} {n : Nat} {Q : xQ} {μ : xM}  {a : Nat} (hs : x_sh a = (9, 39)) (hst : st.length ≤ 4) (h : x_V S 118 0 [some (.ref a)] [] μ n (x_bk S 120 34 L st Q)) : x_V S 120 34 L (.ref a :: st) μ n Q := x_callV (k' := 118) (as := []) (na := 0) d120_34 ⟨w956, by decide +kernel, by decide, by decide, by decide, by decide, by decide⟩ cf9 w953 w955 wp49 (by decide +kernel) rfl hs (fun v hv => by
    cases hv) hst h
theorem s120_37 {S : Nat × (Nat → Int32)} {L : List (Option Value)} {st : List Value} {n : Nat} {Q : xQ} {μ : xM} {x : Int32} (hl : L[1]? = some (some (.int x))) (h : x_V S 120 38 L (.int x :: st) μ n Q) : x_V S 120 37 L (st) μ n Q := x_iload_n d120_37 hl h
theorem s120_38 {S : Nat × (Nat → Int32)} {L : List (Option Value)} {st : List Value} {n : Nat} {Q : xQ} {μ : xM} {x : Int32} (h : Q (.inl (some (.int x))) μ n) : x_V S 120 38 L (.int x :: []) μ n Q := x_ireturn d120_38 rfl rfl h
theorem mC_121 : mC 121 = prog_12_method_39_code := rfl
theorem d121_0 : decode (mC 121) 0 = .ok (.aload_n 0, 1) := by rw [mC_121]; decide +kernel
theorem d121_1 : decode (mC 121) 1 = .ok (.iconst 0, 1) := by rw [mC_121]; decide +kernel
theorem d121_2 : decode (mC 121) 2 = .ok (.putfield 60, 3) := by rw [mC_121]; decide +kernel
theorem d121_5 : decode (mC 121) 5 = .ok (.aload_n 0, 1) := by rw [mC_121]; decide +kernel
theorem d121_6 : decode (mC 121) 6 = .ok (.iconst 0, 1) := by rw [mC_121]; decide +kernel
theorem d121_7 : decode (mC 121) 7 = .ok (.putfield 70, 3) := by rw [mC_121]; decide +kernel
theorem d121_10 : decode (mC 121) 10 = .ok (.aload_n 0, 1) := by rw [mC_121]; decide +kernel
theorem d121_11 : decode (mC 121) 11 = .ok (.dup, 1) := by rw [mC_121]; decide +kernel
theorem d121_12 : decode (mC 121) 12 = .ok (.getfield 112, 3) := by rw [mC_121]; decide +kernel
theorem d121_15 : decode (mC 121) 15 = .ok (.iconst 1, 1) := by rw [mC_121]; decide +kernel
theorem d121_16 : decode (mC 121) 16 = .ok (.iadd, 1) := by rw [mC_121]; decide +kernel
theorem d121_17 : decode (mC 121) 17 = .ok (.putfield 112, 3) := by rw [mC_121]; decide +kernel
theorem d121_20 : decode (mC 121) 20 = .ok (.aload_n 0, 1) := by rw [mC_121]; decide +kernel
theorem d121_21 : decode (mC 121) 21 = .ok (.getfield 118, 3) := by rw [mC_121]; decide +kernel
theorem d121_24 : decode (mC 121) 24 = .ok (.ifCond .eq 24, 3) := by rw [mC_121]; decide +kernel
theorem d121_27 : decode (mC 121) 27 = .ok (.aload_n 0, 1) := by rw [mC_121]; decide +kernel
theorem d121_28 : decode (mC 121) 28 = .ok (.getfield 112, 3) := by rw [mC_121]; decide +kernel
theorem d121_31 : decode (mC 121) 31 = .ok (.aload_n 0, 1) := by rw [mC_121]; decide +kernel
theorem d121_32 : decode (mC 121) 32 = .ok (.getfield 217, 3) := by rw [mC_121]; decide +kernel
theorem d121_35 : decode (mC 121) 35 = .ok (.isub, 1) := by rw [mC_121]; decide +kernel
theorem d121_36 : decode (mC 121) 36 = .ok (.bipush 24, 2) := by rw [mC_121]; decide +kernel
theorem d121_38 : decode (mC 121) 38 = .ok (.if_icmp .lt 10, 3) := by rw [mC_121]; decide +kernel
theorem d121_41 : decode (mC 121) 41 = .ok (.aload_n 0, 1) := by rw [mC_121]; decide +kernel
theorem d121_42 : decode (mC 121) 42 = .ok (.invokevirtual 220, 3) := by rw [mC_121]; decide +kernel
theorem d121_45 : decode (mC 121) 45 = .ok (.goto 86, 3) := by rw [mC_121]; decide +kernel
theorem d121_48 : decode (mC 121) 48 = .ok (.aload_n 0, 1) := by rw [mC_121]; decide +kernel
theorem d121_49 : decode (mC 121) 49 = .ok (.getfield 118, 3) := by rw [mC_121]; decide +kernel
theorem d121_52 : decode (mC 121) 52 = .ok (.ifCond .eq 79, 3) := by rw [mC_121]; decide +kernel
theorem d121_55 : decode (mC 121) 55 = .ok (.aload_n 0, 1) := by rw [mC_121]; decide +kernel
theorem d121_56 : decode (mC 121) 56 = .ok (.getfield 112, 3) := by rw [mC_121]; decide +kernel
theorem d121_59 : decode (mC 121) 59 = .ok (.aload_n 0, 1) := by rw [mC_121]; decide +kernel
theorem d121_60 : decode (mC 121) 60 = .ok (.getfield 217, 3) := by rw [mC_121]; decide +kernel
theorem d121_63 : decode (mC 121) 63 = .ok (.isub, 1) := by rw [mC_121]; decide +kernel
theorem d121_64 : decode (mC 121) 64 = .ok (.bipush 12, 2) := by rw [mC_121]; decide +kernel
theorem d121_66 : decode (mC 121) 66 = .ok (.if_icmp .ne 16, 3) := by rw [mC_121]; decide +kernel
theorem d121_69 : decode (mC 121) 69 = .ok (.aload_n 0, 1) := by rw [mC_121]; decide +kernel
theorem d121_70 : decode (mC 121) 70 = .ok (.bipush 49, 2) := by rw [mC_121]; decide +kernel
theorem d121_72 : decode (mC 121) 72 = .ok (.aload_n 0, 1) := by rw [mC_121]; decide +kernel
theorem d121_73 : decode (mC 121) 73 = .ok (.getfield 112, 3) := by rw [mC_121]; decide +kernel
theorem d121_76 : decode (mC 121) 76 = .ok (.iconst 0, 1) := by rw [mC_121]; decide +kernel
theorem d121_77 : decode (mC 121) 77 = .ok (.iconst 0, 1) := by rw [mC_121]; decide +kernel
theorem d121_78 : decode (mC 121) 78 = .ok (.iconst 0, 1) := by rw [mC_121]; decide +kernel
theorem d121_79 : decode (mC 121) 79 = .ok (.invokevirtual 124, 3) := by rw [mC_121]; decide +kernel
theorem d121_82 : decode (mC 121) 82 = .ok (.aload_n 0, 1) := by rw [mC_121]; decide +kernel
theorem d121_83 : decode (mC 121) 83 = .ok (.getfield 128, 3) := by rw [mC_121]; decide +kernel
theorem d121_86 : decode (mC 121) 86 = .ok (.ifCond .le 21, 3) := by rw [mC_121]; decide +kernel
theorem d121_89 : decode (mC 121) 89 = .ok (.aload_n 0, 1) := by rw [mC_121]; decide +kernel
theorem d121_90 : decode (mC 121) 90 = .ok (.getfield 112, 3) := by rw [mC_121]; decide +kernel
theorem d121_93 : decode (mC 121) 93 = .ok (.aload_n 0, 1) := by rw [mC_121]; decide +kernel
theorem d121_94 : decode (mC 121) 94 = .ok (.getfield 131, 3) := by rw [mC_121]; decide +kernel
theorem d121_97 : decode (mC 121) 97 = .ok (.isub, 1) := by rw [mC_121]; decide +kernel
theorem d121_98 : decode (mC 121) 98 = .ok (.bipush 8, 2) := by rw [mC_121]; decide +kernel
theorem d121_100 : decode (mC 121) 100 = .ok (.if_icmp .lt 7, 3) := by rw [mC_121]; decide +kernel
theorem d121_103 : decode (mC 121) 103 = .ok (.aload_n 0, 1) := by rw [mC_121]; decide +kernel
theorem d121_104 : decode (mC 121) 104 = .ok (.invokevirtual 226, 3) := by rw [mC_121]; decide +kernel
theorem d121_107 : decode (mC 121) 107 = .ok (.aload_n 0, 1) := by rw [mC_121]; decide +kernel
theorem d121_108 : decode (mC 121) 108 = .ok (.getfield 112, 3) := by rw [mC_121]; decide +kernel
theorem d121_111 : decode (mC 121) 111 = .ok (.aload_n 0, 1) := by rw [mC_121]; decide +kernel
theorem d121_112 : decode (mC 121) 112 = .ok (.getfield 115, 3) := by rw [mC_121]; decide +kernel
theorem d121_115 : decode (mC 121) 115 = .ok (.isub, 1) := by rw [mC_121]; decide +kernel
theorem d121_116 : decode (mC 121) 116 = .ok (.bipush 10, 2) := by rw [mC_121]; decide +kernel
theorem d121_118 : decode (mC 121) 118 = .ok (.if_icmp .lt 13, 3) := by rw [mC_121]; decide +kernel
theorem d121_121 : decode (mC 121) 121 = .ok (.aload_n 0, 1) := by rw [mC_121]; decide +kernel
theorem d121_122 : decode (mC 121) 122 = .ok (.bipush 48, 2) := by rw [mC_121]; decide +kernel
theorem d121_124 : decode (mC 121) 124 = .ok (.iconst (-1), 1) := by rw [mC_121]; decide +kernel
theorem d121_125 : decode (mC 121) 125 = .ok (.iconst 0, 1) := by rw [mC_121]; decide +kernel
theorem d121_126 : decode (mC 121) 126 = .ok (.iconst 0, 1) := by rw [mC_121]; decide +kernel
theorem d121_127 : decode (mC 121) 127 = .ok (.iconst 0, 1) := by rw [mC_121]; decide +kernel
theorem d121_128 : decode (mC 121) 128 = .ok (.invokevirtual 124, 3) := by rw [mC_121]; decide +kernel
theorem d121_131 : decode (mC 121) 131 = .ok (.aload_n 0, 1) := by rw [mC_121]; decide +kernel
theorem d121_132 : decode (mC 121) 132 = .ok (.getfield 112, 3) := by rw [mC_121]; decide +kernel
theorem d121_135 : decode (mC 121) 135 = .ok (.ireturn, 1) := by rw [mC_121]; decide +kernel
theorem s121_0 {S : Nat × (Nat → Int32)} {L : List (Option Value)} {st : List Value} {n : Nat} {Q : xQ} {μ : xM} {a : Nat} (hl : L[0]? = some (some (.ref a))) (h : x_V S 121 1 L (.ref a :: st) μ n Q) : x_V S 121 0 L (st) μ n Q := x_aload_n d121_0 hl h
theorem s121_0N {S : Nat × (Nat → Int32)} {L : List (Option Value)} {st : List Value} {n : Nat} {Q : xQ} {μ : xM} (hl : L[0]? = some (some .null)) (h : x_V S 121 1 L (.null :: st) μ n Q) : x_V S 121 0 L st μ n Q := x_aload_nN d121_0 hl h
theorem s121_1 {S : Nat × (Nat → Int32)} {L : List (Option Value)} {st : List Value} {n : Nat} {Q : xQ} {μ : xM}  (h : x_V S 121 2 L (.int (I 0) :: st) μ n Q) : x_V S 121 1 L (st) μ n Q := x_iconst (by decide +kernel) d121_1 h
theorem s121_2 {S : Nat × (Nat → Int32)} {L : List (Option Value)} {st : List Value} {n : Nat} {Q : xQ} {g : Nat → Nat → Int} {a : Nat} {x : Int} (hs : x_sh a = (9, 39)) (hp : x_pt a 0 = none) (ha : a ≠ x_out) (h : x_V S 121 5 L (st) (x_vm (x_uf g a 0 x)) n Q) : x_V S 121 2 L (.int (I x) :: .ref a :: st) (x_vm g) n Q := v_put (i := 0) cf9 d121_2 (by decide) rfl w695 hs rfl hp ha h
theorem s121_5 {S : Nat × (Nat → Int32)} {L : List (Option Value)} {st : List Value} {n : Nat} {Q : xQ} {μ : xM} {a : Nat} (hl : L[0]? = some (some (.ref a))) (h : x_V S 121 6 L (.ref a :: st) μ n Q) : x_V S 121 5 L (st) μ n Q := x_aload_n d121_5 hl h
theorem s121_5N {S : Nat × (Nat → Int32)} {L : List (Option Value)} {st : List Value} {n : Nat} {Q : xQ} {μ : xM} (hl : L[0]? = some (some .null)) (h : x_V S 121 6 L (.null :: st) μ n Q) : x_V S 121 5 L st μ n Q := x_aload_nN d121_5 hl h
theorem s121_6 {S : Nat × (Nat → Int32)} {L : List (Option Value)} {st : List Value} {n : Nat} {Q : xQ} {μ : xM}  (h : x_V S 121 7 L (.int (I 0) :: st) μ n Q) : x_V S 121 6 L (st) μ n Q := x_iconst (by decide +kernel) d121_6 h
theorem s121_7 {S : Nat × (Nat → Int32)} {L : List (Option Value)} {st : List Value} {n : Nat} {Q : xQ} {g : Nat → Nat → Int} {a : Nat} {x : Int} (hs : x_sh a = (9, 39)) (hp : x_pt a 15 = none) (ha : a ≠ x_out) (h : x_V S 121 10 L (st) (x_vm (x_uf g a 15 x)) n Q) : x_V S 121 7 L (.int (I x) :: .ref a :: st) (x_vm g) n Q := v_put (i := 15) cf9 d121_7 (by decide) rfl w710 hs rfl hp ha h
theorem s121_10 {S : Nat × (Nat → Int32)} {L : List (Option Value)} {st : List Value} {n : Nat} {Q : xQ} {μ : xM} {a : Nat} (hl : L[0]? = some (some (.ref a))) (h : x_V S 121 11 L (.ref a :: st) μ n Q) : x_V S 121 10 L (st) μ n Q := x_aload_n d121_10 hl h
theorem s121_10N {S : Nat × (Nat → Int32)} {L : List (Option Value)} {st : List Value} {n : Nat} {Q : xQ} {μ : xM} (hl : L[0]? = some (some .null)) (h : x_V S 121 11 L (.null :: st) μ n Q) : x_V S 121 10 L st μ n Q := x_aload_nN d121_10 hl h
theorem s121_11 {S : Nat × (Nat → Int32)} {L : List (Option Value)} {st : List Value} {n : Nat} {Q : xQ} {μ : xM} {v : Value} (hc : v.category = 1) (h : x_V S 121 12 L (v :: v :: st) μ n Q) : x_V S 121 11 L (v :: st) μ n Q := x_dup hc d121_11 h
theorem s121_12 {S : Nat × (Nat → Int32)} {L : List (Option Value)} {st : List Value} {n : Nat} {Q : xQ} {g : Nat → Nat → Int} {a : Nat} (hs : x_sh a = (9, 39)) (hp : x_pt a 22 = none) (ha : a ≠ x_out) (h : x_V S 121 15 L (.int (I (g a 22)) :: st) (x_vm g) n Q) : x_V S 121 12 L (.ref a :: st) (x_vm g) n Q := v_get (i := 22) cf9 d121_12 (by decide) w717 hs hp ha h
theorem s121_15 {S : Nat × (Nat → Int32)} {L : List (Option Value)} {st : List Value} {n : Nat} {Q : xQ} {μ : xM}  (h : x_V S 121 16 L (.int (I 1) :: st) μ n Q) : x_V S 121 15 L (st) μ n Q := x_iconst (by decide +kernel) d121_15 h
theorem s121_16 {S : Nat × (Nat → Int32)} {L : List (Option Value)} {st : List Value} {n : Nat} {Q : xQ} {μ : xM} {x y : Int} (h : x_V S 121 17 L (.int (I (x + y)) :: st) μ n Q) : x_V S 121 16 L (.int (I y) :: .int (I x) :: st) μ n Q := v_iadd d121_16 h
theorem s121_17 {S : Nat × (Nat → Int32)} {L : List (Option Value)} {st : List Value} {n : Nat} {Q : xQ} {g : Nat → Nat → Int} {a : Nat} {x : Int} (hs : x_sh a = (9, 39)) (hp : x_pt a 22 = none) (ha : a ≠ x_out) (h : x_V S 121 20 L (st) (x_vm (x_uf g a 22 x)) n Q) : x_V S 121 17 L (.int (I x) :: .ref a :: st) (x_vm g) n Q := v_put (i := 22) cf9 d121_17 (by decide) rfl w717 hs rfl hp ha h
theorem s121_20 {S : Nat × (Nat → Int32)} {L : List (Option Value)} {st : List Value} {n : Nat} {Q : xQ} {μ : xM} {a : Nat} (hl : L[0]? = some (some (.ref a))) (h : x_V S 121 21 L (.ref a :: st) μ n Q) : x_V S 121 20 L (st) μ n Q := x_aload_n d121_20 hl h
theorem s121_20N {S : Nat × (Nat → Int32)} {L : List (Option Value)} {st : List Value} {n : Nat} {Q : xQ} {μ : xM} (hl : L[0]? = some (some .null)) (h : x_V S 121 21 L (.null :: st) μ n Q) : x_V S 121 20 L st μ n Q := x_aload_nN d121_20 hl h
theorem s121_21 {S : Nat × (Nat → Int32)} {L : List (Option Value)} {st : List Value} {n : Nat} {Q : xQ} {g : Nat → Nat → Int} {a : Nat} (hs : x_sh a = (9, 39)) (hp : x_pt a 19 = none) (ha : a ≠ x_out) (h : x_V S 121 24 L (.int (I (g a 19)) :: st) (x_vm g) n Q) : x_V S 121 21 L (.ref a :: st) (x_vm g) n Q := v_get (i := 19) cf9 d121_21 (by decide) w714 hs hp ha h
theorem s121_24 {S : Nat × (Nat → Int32)} {L : List (Option Value)} {st : List Value} {n : Nat} {Q : xQ} {μ : xM} {x : Int} (hx : ib x) (kt : x = 0 → x_V S 121 48 L (st) μ n Q) (kf : x ≠ 0 → x_V S 121 27 L (st) μ n Q) : x_V S 121 24 L (.int (I x) :: st) μ n Q := v_if_eq d121_24 (by decide) hx kt kf
theorem s121_27 {S : Nat × (Nat → Int32)} {L : List (Option Value)} {st : List Value} {n : Nat} {Q : xQ} {μ : xM} {a : Nat} (hl : L[0]? = some (some (.ref a))) (h : x_V S 121 28 L (.ref a :: st) μ n Q) : x_V S 121 27 L (st) μ n Q := x_aload_n d121_27 hl h
theorem s121_27N {S : Nat × (Nat → Int32)} {L : List (Option Value)} {st : List Value} {n : Nat} {Q : xQ} {μ : xM} (hl : L[0]? = some (some .null)) (h : x_V S 121 28 L (.null :: st) μ n Q) : x_V S 121 27 L st μ n Q := x_aload_nN d121_27 hl h
theorem s121_28 {S : Nat × (Nat → Int32)} {L : List (Option Value)} {st : List Value} {n : Nat} {Q : xQ} {g : Nat → Nat → Int} {a : Nat} (hs : x_sh a = (9, 39)) (hp : x_pt a 22 = none) (ha : a ≠ x_out) (h : x_V S 121 31 L (.int (I (g a 22)) :: st) (x_vm g) n Q) : x_V S 121 28 L (.ref a :: st) (x_vm g) n Q := v_get (i := 22) cf9 d121_28 (by decide) w717 hs hp ha h
theorem s121_31 {S : Nat × (Nat → Int32)} {L : List (Option Value)} {st : List Value} {n : Nat} {Q : xQ} {μ : xM} {a : Nat} (hl : L[0]? = some (some (.ref a))) (h : x_V S 121 32 L (.ref a :: st) μ n Q) : x_V S 121 31 L (st) μ n Q := x_aload_n d121_31 hl h
theorem s121_31N {S : Nat × (Nat → Int32)} {L : List (Option Value)} {st : List Value} {n : Nat} {Q : xQ} {μ : xM} (hl : L[0]? = some (some .null)) (h : x_V S 121 32 L (.null :: st) μ n Q) : x_V S 121 31 L st μ n Q := x_aload_nN d121_31 hl h
theorem s121_32 {S : Nat × (Nat → Int32)} {L : List (Option Value)} {st : List Value} {n : Nat} {Q : xQ} {g : Nat → Nat → Int} {a : Nat} (hs : x_sh a = (9, 39)) (hp : x_pt a 23 = none) (ha : a ≠ x_out) (h : x_V S 121 35 L (.int (I (g a 23)) :: st) (x_vm g) n Q) : x_V S 121 32 L (.ref a :: st) (x_vm g) n Q := v_get (i := 23) cf9 d121_32 (by decide) w718 hs hp ha h
theorem s121_35 {S : Nat × (Nat → Int32)} {L : List (Option Value)} {st : List Value} {n : Nat} {Q : xQ} {μ : xM} {x y : Int} (h : x_V S 121 36 L (.int (I (x - y)) :: st) μ n Q) : x_V S 121 35 L (.int (I y) :: .int (I x) :: st) μ n Q := v_isub d121_35 h
theorem s121_36 {S : Nat × (Nat → Int32)} {L : List (Option Value)} {st : List Value} {n : Nat} {Q : xQ} {μ : xM}  (h : x_V S 121 38 L (.int (I 24) :: st) μ n Q) : x_V S 121 36 L (st) μ n Q := x_bipush (by decide +kernel) d121_36 h
theorem s121_38 {S : Nat × (Nat → Int32)} {L : List (Option Value)} {st : List Value} {n : Nat} {Q : xQ} {μ : xM} {x y : Int} (hx : ib x) (hy : ib y) (kt : x < y → x_V S 121 48 L (st) μ n Q) (kf : y ≤ x → x_V S 121 41 L (st) μ n Q) : x_V S 121 38 L (.int (I y) :: .int (I x) :: st) μ n Q := v_icmp_lt d121_38 (by decide) hx hy kt kf
theorem s121_41 {S : Nat × (Nat → Int32)} {L : List (Option Value)} {st : List Value} {n : Nat} {Q : xQ} {μ : xM} {a : Nat} (hl : L[0]? = some (some (.ref a))) (h : x_V S 121 42 L (.ref a :: st) μ n Q) : x_V S 121 41 L (st) μ n Q := x_aload_n d121_41 hl h
theorem s121_41N {S : Nat × (Nat → Int32)} {L : List (Option Value)} {st : List Value} {n : Nat} {Q : xQ} {μ : xM} (hl : L[0]? = some (some .null)) (h : x_V S 121 42 L (.null :: st) μ n Q) : x_V S 121 41 L st μ n Q := x_aload_nN d121_41 hl h
theorem s121_42 {S : Nat × (Nat → Int32)} {L : List (Option Value)} {st : List Value} {n : Nat} {Q : xQ} {μ : xM}  {a : Nat} (hs : x_sh a = (9, 39)) (hst : st.length ≤ 4) (h : x_V S 99 0 [some (.ref a)] [] μ n (x_bk S 121 42 L st Q)) : x_V S 121 42 L (.ref a :: st) μ n Q := x_callV (k' := 99) (as := []) (na := 0) d121_42 ⟨w912, by decide +kernel, by decide, by decide, by decide, by decide, by decide⟩ cf9 w909 w911 wp38 (by decide +kernel) rfl hs (fun v hv => by
    cases hv) hst h
theorem s121_45 {S : Nat × (Nat → Int32)} {L : List (Option Value)} {st : List Value} {n : Nat} {Q : xQ} {μ : xM}  (h : x_V S 121 131 L (st) μ n Q) : x_V S 121 45 L (st) μ n Q := x_goto (tgt := 131) (by decide) d121_45 h
theorem s121_48 {S : Nat × (Nat → Int32)} {L : List (Option Value)} {st : List Value} {n : Nat} {Q : xQ} {μ : xM} {a : Nat} (hl : L[0]? = some (some (.ref a))) (h : x_V S 121 49 L (.ref a :: st) μ n Q) : x_V S 121 48 L (st) μ n Q := x_aload_n d121_48 hl h
theorem s121_48N {S : Nat × (Nat → Int32)} {L : List (Option Value)} {st : List Value} {n : Nat} {Q : xQ} {μ : xM} (hl : L[0]? = some (some .null)) (h : x_V S 121 49 L (.null :: st) μ n Q) : x_V S 121 48 L st μ n Q := x_aload_nN d121_48 hl h
theorem s121_49 {S : Nat × (Nat → Int32)} {L : List (Option Value)} {st : List Value} {n : Nat} {Q : xQ} {g : Nat → Nat → Int} {a : Nat} (hs : x_sh a = (9, 39)) (hp : x_pt a 19 = none) (ha : a ≠ x_out) (h : x_V S 121 52 L (.int (I (g a 19)) :: st) (x_vm g) n Q) : x_V S 121 49 L (.ref a :: st) (x_vm g) n Q := v_get (i := 19) cf9 d121_49 (by decide) w714 hs hp ha h
theorem s121_52 {S : Nat × (Nat → Int32)} {L : List (Option Value)} {st : List Value} {n : Nat} {Q : xQ} {μ : xM} {x : Int} (hx : ib x) (kt : x = 0 → x_V S 121 131 L (st) μ n Q) (kf : x ≠ 0 → x_V S 121 55 L (st) μ n Q) : x_V S 121 52 L (.int (I x) :: st) μ n Q := v_if_eq d121_52 (by decide) hx kt kf
theorem s121_55 {S : Nat × (Nat → Int32)} {L : List (Option Value)} {st : List Value} {n : Nat} {Q : xQ} {μ : xM} {a : Nat} (hl : L[0]? = some (some (.ref a))) (h : x_V S 121 56 L (.ref a :: st) μ n Q) : x_V S 121 55 L (st) μ n Q := x_aload_n d121_55 hl h
theorem s121_55N {S : Nat × (Nat → Int32)} {L : List (Option Value)} {st : List Value} {n : Nat} {Q : xQ} {μ : xM} (hl : L[0]? = some (some .null)) (h : x_V S 121 56 L (.null :: st) μ n Q) : x_V S 121 55 L st μ n Q := x_aload_nN d121_55 hl h
theorem s121_56 {S : Nat × (Nat → Int32)} {L : List (Option Value)} {st : List Value} {n : Nat} {Q : xQ} {g : Nat → Nat → Int} {a : Nat} (hs : x_sh a = (9, 39)) (hp : x_pt a 22 = none) (ha : a ≠ x_out) (h : x_V S 121 59 L (.int (I (g a 22)) :: st) (x_vm g) n Q) : x_V S 121 56 L (.ref a :: st) (x_vm g) n Q := v_get (i := 22) cf9 d121_56 (by decide) w717 hs hp ha h
theorem s121_59 {S : Nat × (Nat → Int32)} {L : List (Option Value)} {st : List Value} {n : Nat} {Q : xQ} {μ : xM} {a : Nat} (hl : L[0]? = some (some (.ref a))) (h : x_V S 121 60 L (.ref a :: st) μ n Q) : x_V S 121 59 L (st) μ n Q := x_aload_n d121_59 hl h
theorem s121_59N {S : Nat × (Nat → Int32)} {L : List (Option Value)} {st : List Value} {n : Nat} {Q : xQ} {μ : xM} (hl : L[0]? = some (some .null)) (h : x_V S 121 60 L (.null :: st) μ n Q) : x_V S 121 59 L st μ n Q := x_aload_nN d121_59 hl h
theorem s121_60 {S : Nat × (Nat → Int32)} {L : List (Option Value)} {st : List Value} {n : Nat} {Q : xQ} {g : Nat → Nat → Int} {a : Nat} (hs : x_sh a = (9, 39)) (hp : x_pt a 23 = none) (ha : a ≠ x_out) (h : x_V S 121 63 L (.int (I (g a 23)) :: st) (x_vm g) n Q) : x_V S 121 60 L (.ref a :: st) (x_vm g) n Q := v_get (i := 23) cf9 d121_60 (by decide) w718 hs hp ha h
theorem s121_63 {S : Nat × (Nat → Int32)} {L : List (Option Value)} {st : List Value} {n : Nat} {Q : xQ} {μ : xM} {x y : Int} (h : x_V S 121 64 L (.int (I (x - y)) :: st) μ n Q) : x_V S 121 63 L (.int (I y) :: .int (I x) :: st) μ n Q := v_isub d121_63 h
theorem s121_64 {S : Nat × (Nat → Int32)} {L : List (Option Value)} {st : List Value} {n : Nat} {Q : xQ} {μ : xM}  (h : x_V S 121 66 L (.int (I 12) :: st) μ n Q) : x_V S 121 64 L (st) μ n Q := x_bipush (by decide +kernel) d121_64 h
theorem s121_66 {S : Nat × (Nat → Int32)} {L : List (Option Value)} {st : List Value} {n : Nat} {Q : xQ} {μ : xM} {x y : Int} (hx : ib x) (hy : ib y) (kt : x ≠ y → x_V S 121 82 L (st) μ n Q) (kf : x = y → x_V S 121 69 L (st) μ n Q) : x_V S 121 66 L (.int (I y) :: .int (I x) :: st) μ n Q := v_icmp_ne d121_66 (by decide) hx hy kt kf
theorem s121_69 {S : Nat × (Nat → Int32)} {L : List (Option Value)} {st : List Value} {n : Nat} {Q : xQ} {μ : xM} {a : Nat} (hl : L[0]? = some (some (.ref a))) (h : x_V S 121 70 L (.ref a :: st) μ n Q) : x_V S 121 69 L (st) μ n Q := x_aload_n d121_69 hl h
theorem s121_69N {S : Nat × (Nat → Int32)} {L : List (Option Value)} {st : List Value} {n : Nat} {Q : xQ} {μ : xM} (hl : L[0]? = some (some .null)) (h : x_V S 121 70 L (.null :: st) μ n Q) : x_V S 121 69 L st μ n Q := x_aload_nN d121_69 hl h
theorem s121_70 {S : Nat × (Nat → Int32)} {L : List (Option Value)} {st : List Value} {n : Nat} {Q : xQ} {μ : xM}  (h : x_V S 121 72 L (.int (I 49) :: st) μ n Q) : x_V S 121 70 L (st) μ n Q := x_bipush (by decide +kernel) d121_70 h
theorem s121_72 {S : Nat × (Nat → Int32)} {L : List (Option Value)} {st : List Value} {n : Nat} {Q : xQ} {μ : xM} {a : Nat} (hl : L[0]? = some (some (.ref a))) (h : x_V S 121 73 L (.ref a :: st) μ n Q) : x_V S 121 72 L (st) μ n Q := x_aload_n d121_72 hl h
theorem s121_72N {S : Nat × (Nat → Int32)} {L : List (Option Value)} {st : List Value} {n : Nat} {Q : xQ} {μ : xM} (hl : L[0]? = some (some .null)) (h : x_V S 121 73 L (.null :: st) μ n Q) : x_V S 121 72 L st μ n Q := x_aload_nN d121_72 hl h
theorem s121_73 {S : Nat × (Nat → Int32)} {L : List (Option Value)} {st : List Value} {n : Nat} {Q : xQ} {g : Nat → Nat → Int} {a : Nat} (hs : x_sh a = (9, 39)) (hp : x_pt a 22 = none) (ha : a ≠ x_out) (h : x_V S 121 76 L (.int (I (g a 22)) :: st) (x_vm g) n Q) : x_V S 121 73 L (.ref a :: st) (x_vm g) n Q := v_get (i := 22) cf9 d121_73 (by decide) w717 hs hp ha h
theorem s121_76 {S : Nat × (Nat → Int32)} {L : List (Option Value)} {st : List Value} {n : Nat} {Q : xQ} {μ : xM}  (h : x_V S 121 77 L (.int (I 0) :: st) μ n Q) : x_V S 121 76 L (st) μ n Q := x_iconst (by decide +kernel) d121_76 h
theorem s121_77 {S : Nat × (Nat → Int32)} {L : List (Option Value)} {st : List Value} {n : Nat} {Q : xQ} {μ : xM}  (h : x_V S 121 78 L (.int (I 0) :: st) μ n Q) : x_V S 121 77 L (st) μ n Q := x_iconst (by decide +kernel) d121_77 h
theorem s121_78 {S : Nat × (Nat → Int32)} {L : List (Option Value)} {st : List Value} {n : Nat} {Q : xQ} {μ : xM}  (h : x_V S 121 79 L (.int (I 0) :: st) μ n Q) : x_V S 121 78 L (st) μ n Q := x_iconst (by decide +kernel) d121_78 h
theorem s121_79 {S : Nat × (Nat → Int32)} {L : List (Option Value)} {st : List Value} {n : Nat} {Q : xQ} {μ : xM} {x0 : Int32} {x1 : Int32} {x2 : Int32} {x3 : Int32} {x4 : Int32} {a : Nat} (hs : x_sh a = (9, 39)) (hst : st.length ≤ 4) (h : x_V S 98 0 [some (.ref a), some (.int x0), some (.int x1), some (.int x2), some (.int x3), some (.int x4)] [] μ n (x_bk S 121 79 L st Q)) : x_V S 121 79 L (.int x4 :: .int x3 :: .int x2 :: .int x1 :: .int x0 :: .ref a :: st) μ n Q := x_callV (k' := 98) (as := [.int x0, .int x1, .int x2, .int x3, .int x4]) (na := 5) d121_79 ⟨w916, by decide +kernel, by decide, by decide, by decide, by decide, by decide⟩ cf9 w913 w915 wp39 (by decide +kernel) rfl hs (fun v hv => by
    simp only [List.mem_cons, List.not_mem_nil, or_false] at hv
    rcases hv with rfl | rfl | rfl | rfl | rfl <;> first | rfl | assumption) hst h
theorem s121_82 {S : Nat × (Nat → Int32)} {L : List (Option Value)} {st : List Value} {n : Nat} {Q : xQ} {μ : xM} {a : Nat} (hl : L[0]? = some (some (.ref a))) (h : x_V S 121 83 L (.ref a :: st) μ n Q) : x_V S 121 82 L (st) μ n Q := x_aload_n d121_82 hl h
theorem s121_82N {S : Nat × (Nat → Int32)} {L : List (Option Value)} {st : List Value} {n : Nat} {Q : xQ} {μ : xM} (hl : L[0]? = some (some .null)) (h : x_V S 121 83 L (.null :: st) μ n Q) : x_V S 121 82 L st μ n Q := x_aload_nN d121_82 hl h
theorem s121_83 {S : Nat × (Nat → Int32)} {L : List (Option Value)} {st : List Value} {n : Nat} {Q : xQ} {g : Nat → Nat → Int} {a : Nat} (hs : x_sh a = (9, 39)) (hp : x_pt a 26 = none) (ha : a ≠ x_out) (h : x_V S 121 86 L (.int (I (g a 26)) :: st) (x_vm g) n Q) : x_V S 121 83 L (.ref a :: st) (x_vm g) n Q := v_get (i := 26) cf9 d121_83 (by decide) w721 hs hp ha h
theorem s121_86 {S : Nat × (Nat → Int32)} {L : List (Option Value)} {st : List Value} {n : Nat} {Q : xQ} {μ : xM} {x : Int} (hx : ib x) (kt : x ≤ 0 → x_V S 121 107 L (st) μ n Q) (kf : 0 < x → x_V S 121 89 L (st) μ n Q) : x_V S 121 86 L (.int (I x) :: st) μ n Q := v_if_le d121_86 (by decide) hx kt kf
theorem s121_89 {S : Nat × (Nat → Int32)} {L : List (Option Value)} {st : List Value} {n : Nat} {Q : xQ} {μ : xM} {a : Nat} (hl : L[0]? = some (some (.ref a))) (h : x_V S 121 90 L (.ref a :: st) μ n Q) : x_V S 121 89 L (st) μ n Q := x_aload_n d121_89 hl h
theorem s121_89N {S : Nat × (Nat → Int32)} {L : List (Option Value)} {st : List Value} {n : Nat} {Q : xQ} {μ : xM} (hl : L[0]? = some (some .null)) (h : x_V S 121 90 L (.null :: st) μ n Q) : x_V S 121 89 L st μ n Q := x_aload_nN d121_89 hl h
theorem s121_90 {S : Nat × (Nat → Int32)} {L : List (Option Value)} {st : List Value} {n : Nat} {Q : xQ} {g : Nat → Nat → Int} {a : Nat} (hs : x_sh a = (9, 39)) (hp : x_pt a 22 = none) (ha : a ≠ x_out) (h : x_V S 121 93 L (.int (I (g a 22)) :: st) (x_vm g) n Q) : x_V S 121 90 L (.ref a :: st) (x_vm g) n Q := v_get (i := 22) cf9 d121_90 (by decide) w717 hs hp ha h
theorem s121_93 {S : Nat × (Nat → Int32)} {L : List (Option Value)} {st : List Value} {n : Nat} {Q : xQ} {μ : xM} {a : Nat} (hl : L[0]? = some (some (.ref a))) (h : x_V S 121 94 L (.ref a :: st) μ n Q) : x_V S 121 93 L (st) μ n Q := x_aload_n d121_93 hl h
theorem s121_93N {S : Nat × (Nat → Int32)} {L : List (Option Value)} {st : List Value} {n : Nat} {Q : xQ} {μ : xM} (hl : L[0]? = some (some .null)) (h : x_V S 121 94 L (.null :: st) μ n Q) : x_V S 121 93 L st μ n Q := x_aload_nN d121_93 hl h
theorem s121_94 {S : Nat × (Nat → Int32)} {L : List (Option Value)} {st : List Value} {n : Nat} {Q : xQ} {g : Nat → Nat → Int} {a : Nat} (hs : x_sh a = (9, 39)) (hp : x_pt a 25 = none) (ha : a ≠ x_out) (h : x_V S 121 97 L (.int (I (g a 25)) :: st) (x_vm g) n Q) : x_V S 121 94 L (.ref a :: st) (x_vm g) n Q := v_get (i := 25) cf9 d121_94 (by decide) w720 hs hp ha h
theorem s121_97 {S : Nat × (Nat → Int32)} {L : List (Option Value)} {st : List Value} {n : Nat} {Q : xQ} {μ : xM} {x y : Int} (h : x_V S 121 98 L (.int (I (x - y)) :: st) μ n Q) : x_V S 121 97 L (.int (I y) :: .int (I x) :: st) μ n Q := v_isub d121_97 h
theorem s121_98 {S : Nat × (Nat → Int32)} {L : List (Option Value)} {st : List Value} {n : Nat} {Q : xQ} {μ : xM}  (h : x_V S 121 100 L (.int (I 8) :: st) μ n Q) : x_V S 121 98 L (st) μ n Q := x_bipush (by decide +kernel) d121_98 h
theorem s121_100 {S : Nat × (Nat → Int32)} {L : List (Option Value)} {st : List Value} {n : Nat} {Q : xQ} {μ : xM} {x y : Int} (hx : ib x) (hy : ib y) (kt : x < y → x_V S 121 107 L (st) μ n Q) (kf : y ≤ x → x_V S 121 103 L (st) μ n Q) : x_V S 121 100 L (.int (I y) :: .int (I x) :: st) μ n Q := v_icmp_lt d121_100 (by decide) hx hy kt kf
theorem s121_103 {S : Nat × (Nat → Int32)} {L : List (Option Value)} {st : List Value} {n : Nat} {Q : xQ} {μ : xM} {a : Nat} (hl : L[0]? = some (some (.ref a))) (h : x_V S 121 104 L (.ref a :: st) μ n Q) : x_V S 121 103 L (st) μ n Q := x_aload_n d121_103 hl h
theorem s121_103N {S : Nat × (Nat → Int32)} {L : List (Option Value)} {st : List Value} {n : Nat} {Q : xQ} {μ : xM} (hl : L[0]? = some (some .null)) (h : x_V S 121 104 L (.null :: st) μ n Q) : x_V S 121 103 L st μ n Q := x_aload_nN d121_103 hl h
theorem s121_104 {S : Nat × (Nat → Int32)} {L : List (Option Value)} {st : List Value} {n : Nat} {Q : xQ} {μ : xM}  {a : Nat} (hs : x_sh a = (9, 39)) (hst : st.length ≤ 4) (h : x_V S 100 0 [some (.ref a)] [] μ n (x_bk S 121 104 L st Q)) : x_V S 121 104 L (.ref a :: st) μ n Q := x_callV (k' := 100) (as := []) (na := 0) d121_104 ⟨w928, by decide +kernel, by decide, by decide, by decide, by decide, by decide⟩ cf9 w925 w927 wp42 (by decide +kernel) rfl hs (fun v hv => by
    cases hv) hst h
theorem s121_107 {S : Nat × (Nat → Int32)} {L : List (Option Value)} {st : List Value} {n : Nat} {Q : xQ} {μ : xM} {a : Nat} (hl : L[0]? = some (some (.ref a))) (h : x_V S 121 108 L (.ref a :: st) μ n Q) : x_V S 121 107 L (st) μ n Q := x_aload_n d121_107 hl h
theorem s121_107N {S : Nat × (Nat → Int32)} {L : List (Option Value)} {st : List Value} {n : Nat} {Q : xQ} {μ : xM} (hl : L[0]? = some (some .null)) (h : x_V S 121 108 L (.null :: st) μ n Q) : x_V S 121 107 L st μ n Q := x_aload_nN d121_107 hl h
theorem s121_108 {S : Nat × (Nat → Int32)} {L : List (Option Value)} {st : List Value} {n : Nat} {Q : xQ} {g : Nat → Nat → Int} {a : Nat} (hs : x_sh a = (9, 39)) (hp : x_pt a 22 = none) (ha : a ≠ x_out) (h : x_V S 121 111 L (.int (I (g a 22)) :: st) (x_vm g) n Q) : x_V S 121 108 L (.ref a :: st) (x_vm g) n Q := v_get (i := 22) cf9 d121_108 (by decide) w717 hs hp ha h
theorem s121_111 {S : Nat × (Nat → Int32)} {L : List (Option Value)} {st : List Value} {n : Nat} {Q : xQ} {μ : xM} {a : Nat} (hl : L[0]? = some (some (.ref a))) (h : x_V S 121 112 L (.ref a :: st) μ n Q) : x_V S 121 111 L (st) μ n Q := x_aload_n d121_111 hl h
theorem s121_111N {S : Nat × (Nat → Int32)} {L : List (Option Value)} {st : List Value} {n : Nat} {Q : xQ} {μ : xM} (hl : L[0]? = some (some .null)) (h : x_V S 121 112 L (.null :: st) μ n Q) : x_V S 121 111 L st μ n Q := x_aload_nN d121_111 hl h
theorem s121_112 {S : Nat × (Nat → Int32)} {L : List (Option Value)} {st : List Value} {n : Nat} {Q : xQ} {g : Nat → Nat → Int} {a : Nat} (hs : x_sh a = (9, 39)) (hp : x_pt a 24 = none) (ha : a ≠ x_out) (h : x_V S 121 115 L (.int (I (g a 24)) :: st) (x_vm g) n Q) : x_V S 121 112 L (.ref a :: st) (x_vm g) n Q := v_get (i := 24) cf9 d121_112 (by decide) w719 hs hp ha h
theorem s121_115 {S : Nat × (Nat → Int32)} {L : List (Option Value)} {st : List Value} {n : Nat} {Q : xQ} {μ : xM} {x y : Int} (h : x_V S 121 116 L (.int (I (x - y)) :: st) μ n Q) : x_V S 121 115 L (.int (I y) :: .int (I x) :: st) μ n Q := v_isub d121_115 h
theorem s121_116 {S : Nat × (Nat → Int32)} {L : List (Option Value)} {st : List Value} {n : Nat} {Q : xQ} {μ : xM}  (h : x_V S 121 118 L (.int (I 10) :: st) μ n Q) : x_V S 121 116 L (st) μ n Q := x_bipush (by decide +kernel) d121_116 h
theorem s121_118 {S : Nat × (Nat → Int32)} {L : List (Option Value)} {st : List Value} {n : Nat} {Q : xQ} {μ : xM} {x y : Int} (hx : ib x) (hy : ib y) (kt : x < y → x_V S 121 131 L (st) μ n Q) (kf : y ≤ x → x_V S 121 121 L (st) μ n Q) : x_V S 121 118 L (.int (I y) :: .int (I x) :: st) μ n Q := v_icmp_lt d121_118 (by decide) hx hy kt kf
theorem s121_121 {S : Nat × (Nat → Int32)} {L : List (Option Value)} {st : List Value} {n : Nat} {Q : xQ} {μ : xM} {a : Nat} (hl : L[0]? = some (some (.ref a))) (h : x_V S 121 122 L (.ref a :: st) μ n Q) : x_V S 121 121 L (st) μ n Q := x_aload_n d121_121 hl h
theorem s121_121N {S : Nat × (Nat → Int32)} {L : List (Option Value)} {st : List Value} {n : Nat} {Q : xQ} {μ : xM} (hl : L[0]? = some (some .null)) (h : x_V S 121 122 L (.null :: st) μ n Q) : x_V S 121 121 L st μ n Q := x_aload_nN d121_121 hl h
theorem s121_122 {S : Nat × (Nat → Int32)} {L : List (Option Value)} {st : List Value} {n : Nat} {Q : xQ} {μ : xM}  (h : x_V S 121 124 L (.int (I 48) :: st) μ n Q) : x_V S 121 122 L (st) μ n Q := x_bipush (by decide +kernel) d121_122 h
theorem s121_124 {S : Nat × (Nat → Int32)} {L : List (Option Value)} {st : List Value} {n : Nat} {Q : xQ} {μ : xM}  (h : x_V S 121 125 L (.int (I (-1)) :: st) μ n Q) : x_V S 121 124 L (st) μ n Q := x_iconst (by decide +kernel) d121_124 h
theorem s121_125 {S : Nat × (Nat → Int32)} {L : List (Option Value)} {st : List Value} {n : Nat} {Q : xQ} {μ : xM}  (h : x_V S 121 126 L (.int (I 0) :: st) μ n Q) : x_V S 121 125 L (st) μ n Q := x_iconst (by decide +kernel) d121_125 h
theorem s121_126 {S : Nat × (Nat → Int32)} {L : List (Option Value)} {st : List Value} {n : Nat} {Q : xQ} {μ : xM}  (h : x_V S 121 127 L (.int (I 0) :: st) μ n Q) : x_V S 121 126 L (st) μ n Q := x_iconst (by decide +kernel) d121_126 h
theorem s121_127 {S : Nat × (Nat → Int32)} {L : List (Option Value)} {st : List Value} {n : Nat} {Q : xQ} {μ : xM}  (h : x_V S 121 128 L (.int (I 0) :: st) μ n Q) : x_V S 121 127 L (st) μ n Q := x_iconst (by decide +kernel) d121_127 h
theorem s121_128 {S : Nat × (Nat → Int32)} {L : List (Option Value)} {st : List Value} {n : Nat} {Q : xQ} {μ : xM} {x0 : Int32} {x1 : Int32} {x2 : Int32} {x3 : Int32} {x4 : Int32} {a : Nat} (hs : x_sh a = (9, 39)) (hst : st.length ≤ 4) (h : x_V S 98 0 [some (.ref a), some (.int x0), some (.int x1), some (.int x2), some (.int x3), some (.int x4)] [] μ n (x_bk S 121 128 L st Q)) : x_V S 121 128 L (.int x4 :: .int x3 :: .int x2 :: .int x1 :: .int x0 :: .ref a :: st) μ n Q := x_callV (k' := 98) (as := [.int x0, .int x1, .int x2, .int x3, .int x4]) (na := 5) d121_128 ⟨w916, by decide +kernel, by decide, by decide, by decide, by decide, by decide⟩ cf9 w913 w915 wp39 (by decide +kernel) rfl hs (fun v hv => by
    simp only [List.mem_cons, List.not_mem_nil, or_false] at hv
    rcases hv with rfl | rfl | rfl | rfl | rfl <;> first | rfl | assumption) hst h
theorem s121_131 {S : Nat × (Nat → Int32)} {L : List (Option Value)} {st : List Value} {n : Nat} {Q : xQ} {μ : xM} {a : Nat} (hl : L[0]? = some (some (.ref a))) (h : x_V S 121 132 L (.ref a :: st) μ n Q) : x_V S 121 131 L (st) μ n Q := x_aload_n d121_131 hl h
theorem s121_131N {S : Nat × (Nat → Int32)} {L : List (Option Value)} {st : List Value} {n : Nat} {Q : xQ} {μ : xM} (hl : L[0]? = some (some .null)) (h : x_V S 121 132 L (.null :: st) μ n Q) : x_V S 121 131 L st μ n Q := x_aload_nN d121_131 hl h
theorem s121_132 {S : Nat × (Nat → Int32)} {L : List (Option Value)} {st : List Value} {n : Nat} {Q : xQ} {g : Nat → Nat → Int} {a : Nat} (hs : x_sh a = (9, 39)) (hp : x_pt a 22 = none) (ha : a ≠ x_out) (h : x_V S 121 135 L (.int (I (g a 22)) :: st) (x_vm g) n Q) : x_V S 121 132 L (.ref a :: st) (x_vm g) n Q := v_get (i := 22) cf9 d121_132 (by decide) w717 hs hp ha h
theorem s121_135 {S : Nat × (Nat → Int32)} {L : List (Option Value)} {st : List Value} {n : Nat} {Q : xQ} {μ : xM} {x : Int32} (h : Q (.inl (some (.int x))) μ n) : x_V S 121 135 L (.int x :: []) μ n Q := x_ireturn d121_135 rfl rfl h
theorem mC_122 : mC 122 = prog_12_method_40_code := rfl
theorem d122_0 : decode (mC 122) 0 = .ok (.aload_n 0, 1) := by rw [mC_122]; decide +kernel
theorem d122_1 : decode (mC 122) 1 = .ok (.iconst 0, 1) := by rw [mC_122]; decide +kernel
theorem d122_2 : decode (mC 122) 2 = .ok (.putfield 60, 3) := by rw [mC_122]; decide +kernel
theorem d122_5 : decode (mC 122) 5 = .ok (.aload_n 0, 1) := by rw [mC_122]; decide +kernel
theorem d122_6 : decode (mC 122) 6 = .ok (.getfield 118, 3) := by rw [mC_122]; decide +kernel
theorem d122_9 : decode (mC 122) 9 = .ok (.istore_n 1, 1) := by rw [mC_122]; decide +kernel
theorem d122_10 : decode (mC 122) 10 = .ok (.aload_n 0, 1) := by rw [mC_122]; decide +kernel
theorem d122_11 : decode (mC 122) 11 = .ok (.iconst 0, 1) := by rw [mC_122]; decide +kernel
theorem d122_12 : decode (mC 122) 12 = .ok (.putfield 118, 3) := by rw [mC_122]; decide +kernel
theorem d122_15 : decode (mC 122) 15 = .ok (.aload_n 0, 1) := by rw [mC_122]; decide +kernel
theorem d122_16 : decode (mC 122) 16 = .ok (.iconst 0, 1) := by rw [mC_122]; decide +kernel
theorem d122_17 : decode (mC 122) 17 = .ok (.putfield 128, 3) := by rw [mC_122]; decide +kernel
theorem d122_20 : decode (mC 122) 20 = .ok (.aload_n 0, 1) := by rw [mC_122]; decide +kernel
theorem d122_21 : decode (mC 122) 21 = .ok (.iconst 0, 1) := by rw [mC_122]; decide +kernel
theorem d122_22 : decode (mC 122) 22 = .ok (.putfield 70, 3) := by rw [mC_122]; decide +kernel
theorem d122_25 : decode (mC 122) 25 = .ok (.iload_n 1, 1) := by rw [mC_122]; decide +kernel
theorem d122_26 : decode (mC 122) 26 = .ok (.ireturn, 1) := by rw [mC_122]; decide +kernel
theorem s122_0 {S : Nat × (Nat → Int32)} {L : List (Option Value)} {st : List Value} {n : Nat} {Q : xQ} {μ : xM} {a : Nat} (hl : L[0]? = some (some (.ref a))) (h : x_V S 122 1 L (.ref a :: st) μ n Q) : x_V S 122 0 L (st) μ n Q := x_aload_n d122_0 hl h
theorem s122_0N {S : Nat × (Nat → Int32)} {L : List (Option Value)} {st : List Value} {n : Nat} {Q : xQ} {μ : xM} (hl : L[0]? = some (some .null)) (h : x_V S 122 1 L (.null :: st) μ n Q) : x_V S 122 0 L st μ n Q := x_aload_nN d122_0 hl h
theorem s122_1 {S : Nat × (Nat → Int32)} {L : List (Option Value)} {st : List Value} {n : Nat} {Q : xQ} {μ : xM}  (h : x_V S 122 2 L (.int (I 0) :: st) μ n Q) : x_V S 122 1 L (st) μ n Q := x_iconst (by decide +kernel) d122_1 h
theorem s122_2 {S : Nat × (Nat → Int32)} {L : List (Option Value)} {st : List Value} {n : Nat} {Q : xQ} {g : Nat → Nat → Int} {a : Nat} {x : Int} (hs : x_sh a = (9, 39)) (hp : x_pt a 0 = none) (ha : a ≠ x_out) (h : x_V S 122 5 L (st) (x_vm (x_uf g a 0 x)) n Q) : x_V S 122 2 L (.int (I x) :: .ref a :: st) (x_vm g) n Q := v_put (i := 0) cf9 d122_2 (by decide) rfl w695 hs rfl hp ha h
theorem s122_5 {S : Nat × (Nat → Int32)} {L : List (Option Value)} {st : List Value} {n : Nat} {Q : xQ} {μ : xM} {a : Nat} (hl : L[0]? = some (some (.ref a))) (h : x_V S 122 6 L (.ref a :: st) μ n Q) : x_V S 122 5 L (st) μ n Q := x_aload_n d122_5 hl h
theorem s122_5N {S : Nat × (Nat → Int32)} {L : List (Option Value)} {st : List Value} {n : Nat} {Q : xQ} {μ : xM} (hl : L[0]? = some (some .null)) (h : x_V S 122 6 L (.null :: st) μ n Q) : x_V S 122 5 L st μ n Q := x_aload_nN d122_5 hl h
theorem s122_6 {S : Nat × (Nat → Int32)} {L : List (Option Value)} {st : List Value} {n : Nat} {Q : xQ} {g : Nat → Nat → Int} {a : Nat} (hs : x_sh a = (9, 39)) (hp : x_pt a 19 = none) (ha : a ≠ x_out) (h : x_V S 122 9 L (.int (I (g a 19)) :: st) (x_vm g) n Q) : x_V S 122 6 L (.ref a :: st) (x_vm g) n Q := v_get (i := 19) cf9 d122_6 (by decide) w714 hs hp ha h
theorem s122_9 {S : Nat × (Nat → Int32)} {L : List (Option Value)} {st : List Value} {n : Nat} {Q : xQ} {μ : xM} {x : Int32} (h : x_V S 122 10 (L.set 1 (some (.int x))) (st) μ n Q) : x_V S 122 9 L (.int x :: st) μ n Q := x_istore_n d122_9 (by decide) h
theorem s122_10 {S : Nat × (Nat → Int32)} {L : List (Option Value)} {st : List Value} {n : Nat} {Q : xQ} {μ : xM} {a : Nat} (hl : L[0]? = some (some (.ref a))) (h : x_V S 122 11 L (.ref a :: st) μ n Q) : x_V S 122 10 L (st) μ n Q := x_aload_n d122_10 hl h
theorem s122_10N {S : Nat × (Nat → Int32)} {L : List (Option Value)} {st : List Value} {n : Nat} {Q : xQ} {μ : xM} (hl : L[0]? = some (some .null)) (h : x_V S 122 11 L (.null :: st) μ n Q) : x_V S 122 10 L st μ n Q := x_aload_nN d122_10 hl h
theorem s122_11 {S : Nat × (Nat → Int32)} {L : List (Option Value)} {st : List Value} {n : Nat} {Q : xQ} {μ : xM}  (h : x_V S 122 12 L (.int (I 0) :: st) μ n Q) : x_V S 122 11 L (st) μ n Q := x_iconst (by decide +kernel) d122_11 h
theorem s122_12 {S : Nat × (Nat → Int32)} {L : List (Option Value)} {st : List Value} {n : Nat} {Q : xQ} {g : Nat → Nat → Int} {a : Nat} {x : Int} (hs : x_sh a = (9, 39)) (hx : x = 0 ∨ x = 1) (hp : x_pt a 19 = none) (ha : a ≠ x_out) (h : x_V S 122 15 L (st) (x_vm (x_uf g a 19 x)) n Q) : x_V S 122 12 L (.int (I x) :: .ref a :: st) (x_vm g) n Q := v_putz (i := 19) cf9 d122_12 (by decide) rfl w714 hs rfl hx hp ha h
theorem s122_15 {S : Nat × (Nat → Int32)} {L : List (Option Value)} {st : List Value} {n : Nat} {Q : xQ} {μ : xM} {a : Nat} (hl : L[0]? = some (some (.ref a))) (h : x_V S 122 16 L (.ref a :: st) μ n Q) : x_V S 122 15 L (st) μ n Q := x_aload_n d122_15 hl h
theorem s122_15N {S : Nat × (Nat → Int32)} {L : List (Option Value)} {st : List Value} {n : Nat} {Q : xQ} {μ : xM} (hl : L[0]? = some (some .null)) (h : x_V S 122 16 L (.null :: st) μ n Q) : x_V S 122 15 L st μ n Q := x_aload_nN d122_15 hl h
theorem s122_16 {S : Nat × (Nat → Int32)} {L : List (Option Value)} {st : List Value} {n : Nat} {Q : xQ} {μ : xM}  (h : x_V S 122 17 L (.int (I 0) :: st) μ n Q) : x_V S 122 16 L (st) μ n Q := x_iconst (by decide +kernel) d122_16 h
theorem s122_17 {S : Nat × (Nat → Int32)} {L : List (Option Value)} {st : List Value} {n : Nat} {Q : xQ} {g : Nat → Nat → Int} {a : Nat} {x : Int} (hs : x_sh a = (9, 39)) (hp : x_pt a 26 = none) (ha : a ≠ x_out) (h : x_V S 122 20 L (st) (x_vm (x_uf g a 26 x)) n Q) : x_V S 122 17 L (.int (I x) :: .ref a :: st) (x_vm g) n Q := v_put (i := 26) cf9 d122_17 (by decide) rfl w721 hs rfl hp ha h
theorem s122_20 {S : Nat × (Nat → Int32)} {L : List (Option Value)} {st : List Value} {n : Nat} {Q : xQ} {μ : xM} {a : Nat} (hl : L[0]? = some (some (.ref a))) (h : x_V S 122 21 L (.ref a :: st) μ n Q) : x_V S 122 20 L (st) μ n Q := x_aload_n d122_20 hl h
theorem s122_20N {S : Nat × (Nat → Int32)} {L : List (Option Value)} {st : List Value} {n : Nat} {Q : xQ} {μ : xM} (hl : L[0]? = some (some .null)) (h : x_V S 122 21 L (.null :: st) μ n Q) : x_V S 122 20 L st μ n Q := x_aload_nN d122_20 hl h
theorem s122_21 {S : Nat × (Nat → Int32)} {L : List (Option Value)} {st : List Value} {n : Nat} {Q : xQ} {μ : xM}  (h : x_V S 122 22 L (.int (I 0) :: st) μ n Q) : x_V S 122 21 L (st) μ n Q := x_iconst (by decide +kernel) d122_21 h
theorem s122_22 {S : Nat × (Nat → Int32)} {L : List (Option Value)} {st : List Value} {n : Nat} {Q : xQ} {g : Nat → Nat → Int} {a : Nat} {x : Int} (hs : x_sh a = (9, 39)) (hp : x_pt a 15 = none) (ha : a ≠ x_out) (h : x_V S 122 25 L (st) (x_vm (x_uf g a 15 x)) n Q) : x_V S 122 22 L (.int (I x) :: .ref a :: st) (x_vm g) n Q := v_put (i := 15) cf9 d122_22 (by decide) rfl w710 hs rfl hp ha h
theorem s122_25 {S : Nat × (Nat → Int32)} {L : List (Option Value)} {st : List Value} {n : Nat} {Q : xQ} {μ : xM} {x : Int32} (hl : L[1]? = some (some (.int x))) (h : x_V S 122 26 L (.int x :: st) μ n Q) : x_V S 122 25 L (st) μ n Q := x_iload_n d122_25 hl h
theorem s122_26 {S : Nat × (Nat → Int32)} {L : List (Option Value)} {st : List Value} {n : Nat} {Q : xQ} {μ : xM} {v : Int} (hv : v = 0 ∨ v = 1) (h : Q (.inl (some (.int (I v)))) μ n) : x_V S 122 26 L (.int (I v) :: []) μ n Q := v_zreturn d122_26 rfl hv h
theorem mC_123 : mC 123 = prog_12_method_41_code := rfl
theorem d123_0 : decode (mC 123) 0 = .ok (.aload_n 0, 1) := by rw [mC_123]; decide +kernel
theorem d123_1 : decode (mC 123) 1 = .ok (.iconst 0, 1) := by rw [mC_123]; decide +kernel
theorem d123_2 : decode (mC 123) 2 = .ok (.putfield 60, 3) := by rw [mC_123]; decide +kernel
theorem d123_5 : decode (mC 123) 5 = .ok (.aload_n 0, 1) := by rw [mC_123]; decide +kernel
theorem d123_6 : decode (mC 123) 6 = .ok (.iload_n 1, 1) := by rw [mC_123]; decide +kernel
theorem d123_7 : decode (mC 123) 7 = .ok (.invokevirtual 201, 3) := by rw [mC_123]; decide +kernel
theorem d123_10 : decode (mC 123) 10 = .ok (.istore_n 3, 1) := by rw [mC_123]; decide +kernel
theorem d123_11 : decode (mC 123) 11 = .ok (.iload_n 3, 1) := by rw [mC_123]; decide +kernel
theorem d123_12 : decode (mC 123) 12 = .ok (.ifCond .ge 9, 3) := by rw [mC_123]; decide +kernel
theorem d123_15 : decode (mC 123) 15 = .ok (.aload_n 0, 1) := by rw [mC_123]; decide +kernel
theorem d123_16 : decode (mC 123) 16 = .ok (.iconst 1, 1) := by rw [mC_123]; decide +kernel
theorem d123_17 : decode (mC 123) 17 = .ok (.invokevirtual 143, 3) := by rw [mC_123]; decide +kernel
theorem d123_20 : decode (mC 123) 20 = .ok (.ireturn, 1) := by rw [mC_123]; decide +kernel
theorem d123_21 : decode (mC 123) 21 = .ok (.iload_n 2, 1) := by rw [mC_123]; decide +kernel
theorem d123_22 : decode (mC 123) 22 = .ok (.iconst 1, 1) := by rw [mC_123]; decide +kernel
theorem d123_23 : decode (mC 123) 23 = .ok (.if_icmp .lt 20, 3) := by rw [mC_123]; decide +kernel
theorem d123_26 : decode (mC 123) 26 = .ok (.iload_n 2, 1) := by rw [mC_123]; decide +kernel
theorem d123_27 : decode (mC 123) 27 = .ok (.aload_n 0, 1) := by rw [mC_123]; decide +kernel
theorem d123_28 : decode (mC 123) 28 = .ok (.getfield 48, 3) := by rw [mC_123]; decide +kernel
theorem d123_31 : decode (mC 123) 31 = .ok (.iload_n 3, 1) := by rw [mC_123]; decide +kernel
theorem d123_32 : decode (mC 123) 32 = .ok (.iaload, 1) := by rw [mC_123]; decide +kernel
theorem d123_33 : decode (mC 123) 33 = .ok (.aload_n 0, 1) := by rw [mC_123]; decide +kernel
theorem d123_34 : decode (mC 123) 34 = .ok (.getfield 51, 3) := by rw [mC_123]; decide +kernel
theorem d123_37 : decode (mC 123) 37 = .ok (.iload_n 3, 1) := by rw [mC_123]; decide +kernel
theorem d123_38 : decode (mC 123) 38 = .ok (.iaload, 1) := by rw [mC_123]; decide +kernel
theorem d123_39 : decode (mC 123) 39 = .ok (.isub, 1) := by rw [mC_123]; decide +kernel
theorem d123_40 : decode (mC 123) 40 = .ok (.if_icmp .le 9, 3) := by rw [mC_123]; decide +kernel
theorem d123_43 : decode (mC 123) 43 = .ok (.aload_n 0, 1) := by rw [mC_123]; decide +kernel
theorem d123_44 : decode (mC 123) 44 = .ok (.iconst 2, 1) := by rw [mC_123]; decide +kernel
theorem d123_45 : decode (mC 123) 45 = .ok (.invokevirtual 143, 3) := by rw [mC_123]; decide +kernel
theorem d123_48 : decode (mC 123) 48 = .ok (.ireturn, 1) := by rw [mC_123]; decide +kernel
theorem d123_49 : decode (mC 123) 49 = .ok (.aload_n 0, 1) := by rw [mC_123]; decide +kernel
theorem d123_50 : decode (mC 123) 50 = .ok (.iconst 0, 1) := by rw [mC_123]; decide +kernel
theorem d123_51 : decode (mC 123) 51 = .ok (.putfield 70, 3) := by rw [mC_123]; decide +kernel
theorem d123_54 : decode (mC 123) 54 = .ok (.aload_n 0, 1) := by rw [mC_123]; decide +kernel
theorem d123_55 : decode (mC 123) 55 = .ok (.getfield 51, 3) := by rw [mC_123]; decide +kernel
theorem d123_58 : decode (mC 123) 58 = .ok (.iload_n 3, 1) := by rw [mC_123]; decide +kernel
theorem d123_59 : decode (mC 123) 59 = .ok (.dup2, 1) := by rw [mC_123]; decide +kernel
theorem d123_60 : decode (mC 123) 60 = .ok (.iaload, 1) := by rw [mC_123]; decide +kernel
theorem d123_61 : decode (mC 123) 61 = .ok (.iload_n 2, 1) := by rw [mC_123]; decide +kernel
theorem d123_62 : decode (mC 123) 62 = .ok (.iadd, 1) := by rw [mC_123]; decide +kernel
theorem d123_63 : decode (mC 123) 63 = .ok (.iastore, 1) := by rw [mC_123]; decide +kernel
theorem d123_64 : decode (mC 123) 64 = .ok (.aload_n 0, 1) := by rw [mC_123]; decide +kernel
theorem d123_65 : decode (mC 123) 65 = .ok (.iload_n 3, 1) := by rw [mC_123]; decide +kernel
theorem d123_66 : decode (mC 123) 66 = .ok (.invokevirtual 211, 3) := by rw [mC_123]; decide +kernel
theorem d123_69 : decode (mC 123) 69 = .ok (.aload_n 0, 1) := by rw [mC_123]; decide +kernel
theorem d123_70 : decode (mC 123) 70 = .ok (.getfield 51, 3) := by rw [mC_123]; decide +kernel
theorem d123_73 : decode (mC 123) 73 = .ok (.iload_n 3, 1) := by rw [mC_123]; decide +kernel
theorem d123_74 : decode (mC 123) 74 = .ok (.iaload, 1) := by rw [mC_123]; decide +kernel
theorem d123_75 : decode (mC 123) 75 = .ok (.ireturn, 1) := by rw [mC_123]; decide +kernel
theorem s123_0 {S : Nat × (Nat → Int32)} {L : List (Option Value)} {st : List Value} {n : Nat} {Q : xQ} {μ : xM} {a : Nat} (hl : L[0]? = some (some (.ref a))) (h : x_V S 123 1 L (.ref a :: st) μ n Q) : x_V S 123 0 L (st) μ n Q := x_aload_n d123_0 hl h
theorem s123_0N {S : Nat × (Nat → Int32)} {L : List (Option Value)} {st : List Value} {n : Nat} {Q : xQ} {μ : xM} (hl : L[0]? = some (some .null)) (h : x_V S 123 1 L (.null :: st) μ n Q) : x_V S 123 0 L st μ n Q := x_aload_nN d123_0 hl h
theorem s123_1 {S : Nat × (Nat → Int32)} {L : List (Option Value)} {st : List Value} {n : Nat} {Q : xQ} {μ : xM}  (h : x_V S 123 2 L (.int (I 0) :: st) μ n Q) : x_V S 123 1 L (st) μ n Q := x_iconst (by decide +kernel) d123_1 h
theorem s123_2 {S : Nat × (Nat → Int32)} {L : List (Option Value)} {st : List Value} {n : Nat} {Q : xQ} {g : Nat → Nat → Int} {a : Nat} {x : Int} (hs : x_sh a = (9, 39)) (hp : x_pt a 0 = none) (ha : a ≠ x_out) (h : x_V S 123 5 L (st) (x_vm (x_uf g a 0 x)) n Q) : x_V S 123 2 L (.int (I x) :: .ref a :: st) (x_vm g) n Q := v_put (i := 0) cf9 d123_2 (by decide) rfl w695 hs rfl hp ha h
theorem s123_5 {S : Nat × (Nat → Int32)} {L : List (Option Value)} {st : List Value} {n : Nat} {Q : xQ} {μ : xM} {a : Nat} (hl : L[0]? = some (some (.ref a))) (h : x_V S 123 6 L (.ref a :: st) μ n Q) : x_V S 123 5 L (st) μ n Q := x_aload_n d123_5 hl h
theorem s123_5N {S : Nat × (Nat → Int32)} {L : List (Option Value)} {st : List Value} {n : Nat} {Q : xQ} {μ : xM} (hl : L[0]? = some (some .null)) (h : x_V S 123 6 L (.null :: st) μ n Q) : x_V S 123 5 L st μ n Q := x_aload_nN d123_5 hl h
theorem s123_6 {S : Nat × (Nat → Int32)} {L : List (Option Value)} {st : List Value} {n : Nat} {Q : xQ} {μ : xM} {x : Int32} (hl : L[1]? = some (some (.int x))) (h : x_V S 123 7 L (.int x :: st) μ n Q) : x_V S 123 6 L (st) μ n Q := x_iload_n d123_6 hl h
theorem s123_7 {S : Nat × (Nat → Int32)} {L : List (Option Value)} {st : List Value} {n : Nat} {Q : xQ} {μ : xM} {x0 : Int32} {a : Nat} (hs : x_sh a = (9, 39)) (hst : st.length ≤ 4) (h : x_V S 114 0 [some (.ref a), some (.int x0), none, none] [] μ n (x_bk S 123 7 L st Q)) : x_V S 123 7 L (.int x0 :: .ref a :: st) μ n Q := x_callV (k' := 114) (as := [.int x0]) (na := 1) d123_7 ⟨w944, by decide +kernel, by decide, by decide, by decide, by decide, by decide⟩ cf9 w941 w943 wp46 (by decide +kernel) rfl hs (fun v hv => by
    simp only [List.mem_cons, List.not_mem_nil, or_false] at hv
    rcases hv with rfl <;> first | rfl | assumption) hst h
theorem s123_10 {S : Nat × (Nat → Int32)} {L : List (Option Value)} {st : List Value} {n : Nat} {Q : xQ} {μ : xM} {x : Int32} (h : x_V S 123 11 (L.set 3 (some (.int x))) (st) μ n Q) : x_V S 123 10 L (.int x :: st) μ n Q := x_istore_n d123_10 (by decide) h
theorem s123_11 {S : Nat × (Nat → Int32)} {L : List (Option Value)} {st : List Value} {n : Nat} {Q : xQ} {μ : xM} {x : Int32} (hl : L[3]? = some (some (.int x))) (h : x_V S 123 12 L (.int x :: st) μ n Q) : x_V S 123 11 L (st) μ n Q := x_iload_n d123_11 hl h
theorem s123_12 {S : Nat × (Nat → Int32)} {L : List (Option Value)} {st : List Value} {n : Nat} {Q : xQ} {μ : xM} {x : Int} (hx : ib x) (kt : 0 ≤ x → x_V S 123 21 L (st) μ n Q) (kf : x < 0 → x_V S 123 15 L (st) μ n Q) : x_V S 123 12 L (.int (I x) :: st) μ n Q := v_if_ge d123_12 (by decide) hx kt kf
theorem s123_15 {S : Nat × (Nat → Int32)} {L : List (Option Value)} {st : List Value} {n : Nat} {Q : xQ} {μ : xM} {a : Nat} (hl : L[0]? = some (some (.ref a))) (h : x_V S 123 16 L (.ref a :: st) μ n Q) : x_V S 123 15 L (st) μ n Q := x_aload_n d123_15 hl h
theorem s123_15N {S : Nat × (Nat → Int32)} {L : List (Option Value)} {st : List Value} {n : Nat} {Q : xQ} {μ : xM} (hl : L[0]? = some (some .null)) (h : x_V S 123 16 L (.null :: st) μ n Q) : x_V S 123 15 L st μ n Q := x_aload_nN d123_15 hl h
theorem s123_16 {S : Nat × (Nat → Int32)} {L : List (Option Value)} {st : List Value} {n : Nat} {Q : xQ} {μ : xM}  (h : x_V S 123 17 L (.int (I 1) :: st) μ n Q) : x_V S 123 16 L (st) μ n Q := x_iconst (by decide +kernel) d123_16 h
theorem s123_17 {S : Nat × (Nat → Int32)} {L : List (Option Value)} {st : List Value} {n : Nat} {Q : xQ} {μ : xM} {x0 : Int32} {a : Nat} (hs : x_sh a = (9, 39)) (hst : st.length ≤ 4) (h : x_V S 85 0 [some (.ref a), some (.int x0)] [] μ n (x_bk S 123 17 L st Q)) : x_V S 123 17 L (.int x0 :: .ref a :: st) μ n Q := x_callV (k' := 85) (as := [.int x0]) (na := 1) d123_17 ⟨w832, by decide +kernel, by decide, by decide, by decide, by decide, by decide⟩ cf9 w829 w831 wp24 (by decide +kernel) rfl hs (fun v hv => by
    simp only [List.mem_cons, List.not_mem_nil, or_false] at hv
    rcases hv with rfl <;> first | rfl | assumption) hst h
theorem s123_20 {S : Nat × (Nat → Int32)} {L : List (Option Value)} {st : List Value} {n : Nat} {Q : xQ} {μ : xM} {x : Int32} (h : Q (.inl (some (.int x))) μ n) : x_V S 123 20 L (.int x :: []) μ n Q := x_ireturn d123_20 rfl rfl h
theorem s123_21 {S : Nat × (Nat → Int32)} {L : List (Option Value)} {st : List Value} {n : Nat} {Q : xQ} {μ : xM} {x : Int32} (hl : L[2]? = some (some (.int x))) (h : x_V S 123 22 L (.int x :: st) μ n Q) : x_V S 123 21 L (st) μ n Q := x_iload_n d123_21 hl h
theorem s123_22 {S : Nat × (Nat → Int32)} {L : List (Option Value)} {st : List Value} {n : Nat} {Q : xQ} {μ : xM}  (h : x_V S 123 23 L (.int (I 1) :: st) μ n Q) : x_V S 123 22 L (st) μ n Q := x_iconst (by decide +kernel) d123_22 h
theorem s123_23 {S : Nat × (Nat → Int32)} {L : List (Option Value)} {st : List Value} {n : Nat} {Q : xQ} {μ : xM} {x y : Int} (hx : ib x) (hy : ib y) (kt : x < y → x_V S 123 43 L (st) μ n Q) (kf : y ≤ x → x_V S 123 26 L (st) μ n Q) : x_V S 123 23 L (.int (I y) :: .int (I x) :: st) μ n Q := v_icmp_lt d123_23 (by decide) hx hy kt kf
theorem s123_26 {S : Nat × (Nat → Int32)} {L : List (Option Value)} {st : List Value} {n : Nat} {Q : xQ} {μ : xM} {x : Int32} (hl : L[2]? = some (some (.int x))) (h : x_V S 123 27 L (.int x :: st) μ n Q) : x_V S 123 26 L (st) μ n Q := x_iload_n d123_26 hl h
theorem s123_27 {S : Nat × (Nat → Int32)} {L : List (Option Value)} {st : List Value} {n : Nat} {Q : xQ} {μ : xM} {a : Nat} (hl : L[0]? = some (some (.ref a))) (h : x_V S 123 28 L (.ref a :: st) μ n Q) : x_V S 123 27 L (st) μ n Q := x_aload_n d123_27 hl h
theorem s123_27N {S : Nat × (Nat → Int32)} {L : List (Option Value)} {st : List Value} {n : Nat} {Q : xQ} {μ : xM} (hl : L[0]? = some (some .null)) (h : x_V S 123 28 L (.null :: st) μ n Q) : x_V S 123 27 L st μ n Q := x_aload_nN d123_27 hl h
theorem s123_28 {S : Nat × (Nat → Int32)} {L : List (Option Value)} {st : List Value} {n : Nat} {Q : xQ} {g : Nat → Nat → Int} {a : Nat} {v : Value} (hs : x_sh a = (9, 39)) (hp : x_pt a 32 = some v) (h : x_V S 123 31 L (v :: st) (x_vm g) n Q) : x_V S 123 28 L (.ref a :: st) (x_vm g) n Q := v_getp (i := 32) cf9 d123_28 (by decide) w727 hs hp h
theorem s123_31 {S : Nat × (Nat → Int32)} {L : List (Option Value)} {st : List Value} {n : Nat} {Q : xQ} {μ : xM} {x : Int32} (hl : L[3]? = some (some (.int x))) (h : x_V S 123 32 L (.int x :: st) μ n Q) : x_V S 123 31 L (st) μ n Q := x_iload_n d123_31 hl h
theorem s123_33 {S : Nat × (Nat → Int32)} {L : List (Option Value)} {st : List Value} {n : Nat} {Q : xQ} {μ : xM} {a : Nat} (hl : L[0]? = some (some (.ref a))) (h : x_V S 123 34 L (.ref a :: st) μ n Q) : x_V S 123 33 L (st) μ n Q := x_aload_n d123_33 hl h
theorem s123_33N {S : Nat × (Nat → Int32)} {L : List (Option Value)} {st : List Value} {n : Nat} {Q : xQ} {μ : xM} (hl : L[0]? = some (some .null)) (h : x_V S 123 34 L (.null :: st) μ n Q) : x_V S 123 33 L st μ n Q := x_aload_nN d123_33 hl h
theorem s123_34 {S : Nat × (Nat → Int32)} {L : List (Option Value)} {st : List Value} {n : Nat} {Q : xQ} {g : Nat → Nat → Int} {a : Nat} {v : Value} (hs : x_sh a = (9, 39)) (hp : x_pt a 33 = some v) (h : x_V S 123 37 L (v :: st) (x_vm g) n Q) : x_V S 123 34 L (.ref a :: st) (x_vm g) n Q := v_getp (i := 33) cf9 d123_34 (by decide) w728 hs hp h
theorem s123_37 {S : Nat × (Nat → Int32)} {L : List (Option Value)} {st : List Value} {n : Nat} {Q : xQ} {μ : xM} {x : Int32} (hl : L[3]? = some (some (.int x))) (h : x_V S 123 38 L (.int x :: st) μ n Q) : x_V S 123 37 L (st) μ n Q := x_iload_n d123_37 hl h
theorem s123_39 {S : Nat × (Nat → Int32)} {L : List (Option Value)} {st : List Value} {n : Nat} {Q : xQ} {μ : xM} {x y : Int} (h : x_V S 123 40 L (.int (I (x - y)) :: st) μ n Q) : x_V S 123 39 L (.int (I y) :: .int (I x) :: st) μ n Q := v_isub d123_39 h
theorem s123_40 {S : Nat × (Nat → Int32)} {L : List (Option Value)} {st : List Value} {n : Nat} {Q : xQ} {μ : xM} {x y : Int} (hx : ib x) (hy : ib y) (kt : x ≤ y → x_V S 123 49 L (st) μ n Q) (kf : y < x → x_V S 123 43 L (st) μ n Q) : x_V S 123 40 L (.int (I y) :: .int (I x) :: st) μ n Q := v_icmp_le d123_40 (by decide) hx hy kt kf
theorem s123_43 {S : Nat × (Nat → Int32)} {L : List (Option Value)} {st : List Value} {n : Nat} {Q : xQ} {μ : xM} {a : Nat} (hl : L[0]? = some (some (.ref a))) (h : x_V S 123 44 L (.ref a :: st) μ n Q) : x_V S 123 43 L (st) μ n Q := x_aload_n d123_43 hl h
theorem s123_43N {S : Nat × (Nat → Int32)} {L : List (Option Value)} {st : List Value} {n : Nat} {Q : xQ} {μ : xM} (hl : L[0]? = some (some .null)) (h : x_V S 123 44 L (.null :: st) μ n Q) : x_V S 123 43 L st μ n Q := x_aload_nN d123_43 hl h
theorem s123_44 {S : Nat × (Nat → Int32)} {L : List (Option Value)} {st : List Value} {n : Nat} {Q : xQ} {μ : xM}  (h : x_V S 123 45 L (.int (I 2) :: st) μ n Q) : x_V S 123 44 L (st) μ n Q := x_iconst (by decide +kernel) d123_44 h
theorem s123_45 {S : Nat × (Nat → Int32)} {L : List (Option Value)} {st : List Value} {n : Nat} {Q : xQ} {μ : xM} {x0 : Int32} {a : Nat} (hs : x_sh a = (9, 39)) (hst : st.length ≤ 4) (h : x_V S 85 0 [some (.ref a), some (.int x0)] [] μ n (x_bk S 123 45 L st Q)) : x_V S 123 45 L (.int x0 :: .ref a :: st) μ n Q := x_callV (k' := 85) (as := [.int x0]) (na := 1) d123_45 ⟨w832, by decide +kernel, by decide, by decide, by decide, by decide, by decide⟩ cf9 w829 w831 wp24 (by decide +kernel) rfl hs (fun v hv => by
    simp only [List.mem_cons, List.not_mem_nil, or_false] at hv
    rcases hv with rfl <;> first | rfl | assumption) hst h
theorem s123_48 {S : Nat × (Nat → Int32)} {L : List (Option Value)} {st : List Value} {n : Nat} {Q : xQ} {μ : xM} {x : Int32} (h : Q (.inl (some (.int x))) μ n) : x_V S 123 48 L (.int x :: []) μ n Q := x_ireturn d123_48 rfl rfl h
theorem s123_49 {S : Nat × (Nat → Int32)} {L : List (Option Value)} {st : List Value} {n : Nat} {Q : xQ} {μ : xM} {a : Nat} (hl : L[0]? = some (some (.ref a))) (h : x_V S 123 50 L (.ref a :: st) μ n Q) : x_V S 123 49 L (st) μ n Q := x_aload_n d123_49 hl h
theorem s123_49N {S : Nat × (Nat → Int32)} {L : List (Option Value)} {st : List Value} {n : Nat} {Q : xQ} {μ : xM} (hl : L[0]? = some (some .null)) (h : x_V S 123 50 L (.null :: st) μ n Q) : x_V S 123 49 L st μ n Q := x_aload_nN d123_49 hl h
theorem s123_50 {S : Nat × (Nat → Int32)} {L : List (Option Value)} {st : List Value} {n : Nat} {Q : xQ} {μ : xM}  (h : x_V S 123 51 L (.int (I 0) :: st) μ n Q) : x_V S 123 50 L (st) μ n Q := x_iconst (by decide +kernel) d123_50 h
theorem s123_51 {S : Nat × (Nat → Int32)} {L : List (Option Value)} {st : List Value} {n : Nat} {Q : xQ} {g : Nat → Nat → Int} {a : Nat} {x : Int} (hs : x_sh a = (9, 39)) (hp : x_pt a 15 = none) (ha : a ≠ x_out) (h : x_V S 123 54 L (st) (x_vm (x_uf g a 15 x)) n Q) : x_V S 123 51 L (.int (I x) :: .ref a :: st) (x_vm g) n Q := v_put (i := 15) cf9 d123_51 (by decide) rfl w710 hs rfl hp ha h
theorem s123_54 {S : Nat × (Nat → Int32)} {L : List (Option Value)} {st : List Value} {n : Nat} {Q : xQ} {μ : xM} {a : Nat} (hl : L[0]? = some (some (.ref a))) (h : x_V S 123 55 L (.ref a :: st) μ n Q) : x_V S 123 54 L (st) μ n Q := x_aload_n d123_54 hl h
theorem s123_54N {S : Nat × (Nat → Int32)} {L : List (Option Value)} {st : List Value} {n : Nat} {Q : xQ} {μ : xM} (hl : L[0]? = some (some .null)) (h : x_V S 123 55 L (.null :: st) μ n Q) : x_V S 123 54 L st μ n Q := x_aload_nN d123_54 hl h
theorem s123_55 {S : Nat × (Nat → Int32)} {L : List (Option Value)} {st : List Value} {n : Nat} {Q : xQ} {g : Nat → Nat → Int} {a : Nat} {v : Value} (hs : x_sh a = (9, 39)) (hp : x_pt a 33 = some v) (h : x_V S 123 58 L (v :: st) (x_vm g) n Q) : x_V S 123 55 L (.ref a :: st) (x_vm g) n Q := v_getp (i := 33) cf9 d123_55 (by decide) w728 hs hp h
theorem s123_58 {S : Nat × (Nat → Int32)} {L : List (Option Value)} {st : List Value} {n : Nat} {Q : xQ} {μ : xM} {x : Int32} (hl : L[3]? = some (some (.int x))) (h : x_V S 123 59 L (.int x :: st) μ n Q) : x_V S 123 58 L (st) μ n Q := x_iload_n d123_58 hl h
theorem s123_59 {S : Nat × (Nat → Int32)} {L : List (Option Value)} {st : List Value} {n : Nat} {Q : xQ} {μ : xM} {v u : Value} (hc : v.category = 1) (hu : u.category = 1) (h : x_V S 123 60 L (v :: u :: v :: u :: st) μ n Q) : x_V S 123 59 L (v :: u :: st) μ n Q := x_dup2 hc hu d123_59 h
theorem s123_61 {S : Nat × (Nat → Int32)} {L : List (Option Value)} {st : List Value} {n : Nat} {Q : xQ} {μ : xM} {x : Int32} (hl : L[2]? = some (some (.int x))) (h : x_V S 123 62 L (.int x :: st) μ n Q) : x_V S 123 61 L (st) μ n Q := x_iload_n d123_61 hl h
theorem s123_62 {S : Nat × (Nat → Int32)} {L : List (Option Value)} {st : List Value} {n : Nat} {Q : xQ} {μ : xM} {x y : Int} (h : x_V S 123 63 L (.int (I (x + y)) :: st) μ n Q) : x_V S 123 62 L (.int (I y) :: .int (I x) :: st) μ n Q := v_iadd d123_62 h
theorem s123_64 {S : Nat × (Nat → Int32)} {L : List (Option Value)} {st : List Value} {n : Nat} {Q : xQ} {μ : xM} {a : Nat} (hl : L[0]? = some (some (.ref a))) (h : x_V S 123 65 L (.ref a :: st) μ n Q) : x_V S 123 64 L (st) μ n Q := x_aload_n d123_64 hl h
theorem s123_64N {S : Nat × (Nat → Int32)} {L : List (Option Value)} {st : List Value} {n : Nat} {Q : xQ} {μ : xM} (hl : L[0]? = some (some .null)) (h : x_V S 123 65 L (.null :: st) μ n Q) : x_V S 123 64 L st μ n Q := x_aload_nN d123_64 hl h
theorem s123_65 {S : Nat × (Nat → Int32)} {L : List (Option Value)} {st : List Value} {n : Nat} {Q : xQ} {μ : xM} {x : Int32} (hl : L[3]? = some (some (.int x))) (h : x_V S 123 66 L (.int x :: st) μ n Q) : x_V S 123 65 L (st) μ n Q := x_iload_n d123_65 hl h
theorem s123_66 {S : Nat × (Nat → Int32)} {L : List (Option Value)} {st : List Value} {n : Nat} {Q : xQ} {μ : xM} {x0 : Int32} {a : Nat} (hs : x_sh a = (9, 39)) (hst : st.length ≤ 4) (h : x_V S 115 0 [some (.ref a), some (.int x0)] [] μ n (x_bk S 123 66 L st Q)) : x_V S 123 66 L (.int x0 :: .ref a :: st) μ n Q := x_callV (k' := 115) (as := [.int x0]) (na := 1) d123_66 ⟨w952, by decide +kernel, by decide, by decide, by decide, by decide, by decide⟩ cf9 w949 w951 wp48 (by decide +kernel) rfl hs (fun v hv => by
    simp only [List.mem_cons, List.not_mem_nil, or_false] at hv
    rcases hv with rfl <;> first | rfl | assumption) hst h
theorem s123_69 {S : Nat × (Nat → Int32)} {L : List (Option Value)} {st : List Value} {n : Nat} {Q : xQ} {μ : xM} {a : Nat} (hl : L[0]? = some (some (.ref a))) (h : x_V S 123 70 L (.ref a :: st) μ n Q) : x_V S 123 69 L (st) μ n Q := x_aload_n d123_69 hl h
theorem s123_69N {S : Nat × (Nat → Int32)} {L : List (Option Value)} {st : List Value} {n : Nat} {Q : xQ} {μ : xM} (hl : L[0]? = some (some .null)) (h : x_V S 123 70 L (.null :: st) μ n Q) : x_V S 123 69 L st μ n Q := x_aload_nN d123_69 hl h
theorem s123_70 {S : Nat × (Nat → Int32)} {L : List (Option Value)} {st : List Value} {n : Nat} {Q : xQ} {g : Nat → Nat → Int} {a : Nat} {v : Value} (hs : x_sh a = (9, 39)) (hp : x_pt a 33 = some v) (h : x_V S 123 73 L (v :: st) (x_vm g) n Q) : x_V S 123 70 L (.ref a :: st) (x_vm g) n Q := v_getp (i := 33) cf9 d123_70 (by decide) w728 hs hp h
theorem s123_73 {S : Nat × (Nat → Int32)} {L : List (Option Value)} {st : List Value} {n : Nat} {Q : xQ} {μ : xM} {x : Int32} (hl : L[3]? = some (some (.int x))) (h : x_V S 123 74 L (.int x :: st) μ n Q) : x_V S 123 73 L (st) μ n Q := x_iload_n d123_73 hl h
theorem s123_75 {S : Nat × (Nat → Int32)} {L : List (Option Value)} {st : List Value} {n : Nat} {Q : xQ} {μ : xM} {x : Int32} (h : Q (.inl (some (.int x))) μ n) : x_V S 123 75 L (.int x :: []) μ n Q := x_ireturn d123_75 rfl rfl h
theorem mC_124 : mC 124 = prog_12_method_42_code := rfl
theorem d124_0 : decode (mC 124) 0 = .ok (.aload_n 0, 1) := by rw [mC_124]; decide +kernel
theorem d124_1 : decode (mC 124) 1 = .ok (.iconst 0, 1) := by rw [mC_124]; decide +kernel
theorem d124_2 : decode (mC 124) 2 = .ok (.putfield 60, 3) := by rw [mC_124]; decide +kernel
theorem d124_5 : decode (mC 124) 5 = .ok (.aload_n 0, 1) := by rw [mC_124]; decide +kernel
theorem d124_6 : decode (mC 124) 6 = .ok (.getfield 70, 3) := by rw [mC_124]; decide +kernel
theorem d124_9 : decode (mC 124) 9 = .ok (.ireturn, 1) := by rw [mC_124]; decide +kernel
theorem s124_0 {S : Nat × (Nat → Int32)} {L : List (Option Value)} {st : List Value} {n : Nat} {Q : xQ} {μ : xM} {a : Nat} (hl : L[0]? = some (some (.ref a))) (h : x_V S 124 1 L (.ref a :: st) μ n Q) : x_V S 124 0 L (st) μ n Q := x_aload_n d124_0 hl h
theorem s124_0N {S : Nat × (Nat → Int32)} {L : List (Option Value)} {st : List Value} {n : Nat} {Q : xQ} {μ : xM} (hl : L[0]? = some (some .null)) (h : x_V S 124 1 L (.null :: st) μ n Q) : x_V S 124 0 L st μ n Q := x_aload_nN d124_0 hl h
theorem s124_1 {S : Nat × (Nat → Int32)} {L : List (Option Value)} {st : List Value} {n : Nat} {Q : xQ} {μ : xM}  (h : x_V S 124 2 L (.int (I 0) :: st) μ n Q) : x_V S 124 1 L (st) μ n Q := x_iconst (by decide +kernel) d124_1 h
theorem s124_2 {S : Nat × (Nat → Int32)} {L : List (Option Value)} {st : List Value} {n : Nat} {Q : xQ} {g : Nat → Nat → Int} {a : Nat} {x : Int} (hs : x_sh a = (9, 39)) (hp : x_pt a 0 = none) (ha : a ≠ x_out) (h : x_V S 124 5 L (st) (x_vm (x_uf g a 0 x)) n Q) : x_V S 124 2 L (.int (I x) :: .ref a :: st) (x_vm g) n Q := v_put (i := 0) cf9 d124_2 (by decide) rfl w695 hs rfl hp ha h
theorem s124_5 {S : Nat × (Nat → Int32)} {L : List (Option Value)} {st : List Value} {n : Nat} {Q : xQ} {μ : xM} {a : Nat} (hl : L[0]? = some (some (.ref a))) (h : x_V S 124 6 L (.ref a :: st) μ n Q) : x_V S 124 5 L (st) μ n Q := x_aload_n d124_5 hl h
theorem s124_5N {S : Nat × (Nat → Int32)} {L : List (Option Value)} {st : List Value} {n : Nat} {Q : xQ} {μ : xM} (hl : L[0]? = some (some .null)) (h : x_V S 124 6 L (.null :: st) μ n Q) : x_V S 124 5 L st μ n Q := x_aload_nN d124_5 hl h
theorem s124_6 {S : Nat × (Nat → Int32)} {L : List (Option Value)} {st : List Value} {n : Nat} {Q : xQ} {g : Nat → Nat → Int} {a : Nat} (hs : x_sh a = (9, 39)) (hp : x_pt a 15 = none) (ha : a ≠ x_out) (h : x_V S 124 9 L (.int (I (g a 15)) :: st) (x_vm g) n Q) : x_V S 124 6 L (.ref a :: st) (x_vm g) n Q := v_get (i := 15) cf9 d124_6 (by decide) w710 hs hp ha h
theorem s124_9 {S : Nat × (Nat → Int32)} {L : List (Option Value)} {st : List Value} {n : Nat} {Q : xQ} {μ : xM} {x : Int32} (h : Q (.inl (some (.int x))) μ n) : x_V S 124 9 L (.int x :: []) μ n Q := x_ireturn d124_9 rfl rfl h
theorem mC_125 : mC 125 = prog_12_method_43_code := rfl
theorem d125_0 : decode (mC 125) 0 = .ok (.aload_n 0, 1) := by rw [mC_125]; decide +kernel
theorem d125_1 : decode (mC 125) 1 = .ok (.iconst 0, 1) := by rw [mC_125]; decide +kernel
theorem d125_2 : decode (mC 125) 2 = .ok (.putfield 60, 3) := by rw [mC_125]; decide +kernel
theorem d125_5 : decode (mC 125) 5 = .ok (.iload_n 1, 1) := by rw [mC_125]; decide +kernel
theorem d125_6 : decode (mC 125) 6 = .ok (.iconst 0, 1) := by rw [mC_125]; decide +kernel
theorem d125_7 : decode (mC 125) 7 = .ok (.aload_n 0, 1) := by rw [mC_125]; decide +kernel
theorem d125_8 : decode (mC 125) 8 = .ok (.getfield 70, 3) := by rw [mC_125]; decide +kernel
theorem d125_11 : decode (mC 125) 11 = .ok (.iconst 1, 1) := by rw [mC_125]; decide +kernel
theorem d125_12 : decode (mC 125) 12 = .ok (.isub, 1) := by rw [mC_125]; decide +kernel
theorem d125_13 : decode (mC 125) 13 = .ok (.invokestatic 139, 3) := by rw [mC_125]; decide +kernel
theorem d125_16 : decode (mC 125) 16 = .ok (.ifCond .eq 18, 3) := by rw [mC_125]; decide +kernel
theorem d125_19 : decode (mC 125) 19 = .ok (.iload_n 1, 1) := by rw [mC_125]; decide +kernel
theorem d125_20 : decode (mC 125) 20 = .ok (.bipush 20, 2) := by rw [mC_125]; decide +kernel
theorem d125_22 : decode (mC 125) 22 = .ok (.if_icmp .ge 12, 3) := by rw [mC_125]; decide +kernel
theorem d125_25 : decode (mC 125) 25 = .ok (.aload_n 0, 1) := by rw [mC_125]; decide +kernel
theorem d125_26 : decode (mC 125) 26 = .ok (.getfield 25, 3) := by rw [mC_125]; decide +kernel
theorem d125_29 : decode (mC 125) 29 = .ok (.iload_n 1, 1) := by rw [mC_125]; decide +kernel
theorem d125_30 : decode (mC 125) 30 = .ok (.iaload, 1) := by rw [mC_125]; decide +kernel
theorem d125_31 : decode (mC 125) 31 = .ok (.goto 8, 3) := by rw [mC_125]; decide +kernel
theorem d125_34 : decode (mC 125) 34 = .ok (.aload_n 0, 1) := by rw [mC_125]; decide +kernel
theorem d125_35 : decode (mC 125) 35 = .ok (.iconst 1, 1) := by rw [mC_125]; decide +kernel
theorem d125_36 : decode (mC 125) 36 = .ok (.invokevirtual 143, 3) := by rw [mC_125]; decide +kernel
theorem d125_39 : decode (mC 125) 39 = .ok (.ireturn, 1) := by rw [mC_125]; decide +kernel
theorem s125_0 {S : Nat × (Nat → Int32)} {L : List (Option Value)} {st : List Value} {n : Nat} {Q : xQ} {μ : xM} {a : Nat} (hl : L[0]? = some (some (.ref a))) (h : x_V S 125 1 L (.ref a :: st) μ n Q) : x_V S 125 0 L (st) μ n Q := x_aload_n d125_0 hl h
theorem s125_0N {S : Nat × (Nat → Int32)} {L : List (Option Value)} {st : List Value} {n : Nat} {Q : xQ} {μ : xM} (hl : L[0]? = some (some .null)) (h : x_V S 125 1 L (.null :: st) μ n Q) : x_V S 125 0 L st μ n Q := x_aload_nN d125_0 hl h
theorem s125_1 {S : Nat × (Nat → Int32)} {L : List (Option Value)} {st : List Value} {n : Nat} {Q : xQ} {μ : xM}  (h : x_V S 125 2 L (.int (I 0) :: st) μ n Q) : x_V S 125 1 L (st) μ n Q := x_iconst (by decide +kernel) d125_1 h
theorem s125_2 {S : Nat × (Nat → Int32)} {L : List (Option Value)} {st : List Value} {n : Nat} {Q : xQ} {g : Nat → Nat → Int} {a : Nat} {x : Int} (hs : x_sh a = (9, 39)) (hp : x_pt a 0 = none) (ha : a ≠ x_out) (h : x_V S 125 5 L (st) (x_vm (x_uf g a 0 x)) n Q) : x_V S 125 2 L (.int (I x) :: .ref a :: st) (x_vm g) n Q := v_put (i := 0) cf9 d125_2 (by decide) rfl w695 hs rfl hp ha h
theorem s125_5 {S : Nat × (Nat → Int32)} {L : List (Option Value)} {st : List Value} {n : Nat} {Q : xQ} {μ : xM} {x : Int32} (hl : L[1]? = some (some (.int x))) (h : x_V S 125 6 L (.int x :: st) μ n Q) : x_V S 125 5 L (st) μ n Q := x_iload_n d125_5 hl h
theorem s125_6 {S : Nat × (Nat → Int32)} {L : List (Option Value)} {st : List Value} {n : Nat} {Q : xQ} {μ : xM}  (h : x_V S 125 7 L (.int (I 0) :: st) μ n Q) : x_V S 125 6 L (st) μ n Q := x_iconst (by decide +kernel) d125_6 h
theorem s125_7 {S : Nat × (Nat → Int32)} {L : List (Option Value)} {st : List Value} {n : Nat} {Q : xQ} {μ : xM} {a : Nat} (hl : L[0]? = some (some (.ref a))) (h : x_V S 125 8 L (.ref a :: st) μ n Q) : x_V S 125 7 L (st) μ n Q := x_aload_n d125_7 hl h
theorem s125_7N {S : Nat × (Nat → Int32)} {L : List (Option Value)} {st : List Value} {n : Nat} {Q : xQ} {μ : xM} (hl : L[0]? = some (some .null)) (h : x_V S 125 8 L (.null :: st) μ n Q) : x_V S 125 7 L st μ n Q := x_aload_nN d125_7 hl h
theorem s125_8 {S : Nat × (Nat → Int32)} {L : List (Option Value)} {st : List Value} {n : Nat} {Q : xQ} {g : Nat → Nat → Int} {a : Nat} (hs : x_sh a = (9, 39)) (hp : x_pt a 15 = none) (ha : a ≠ x_out) (h : x_V S 125 11 L (.int (I (g a 15)) :: st) (x_vm g) n Q) : x_V S 125 8 L (.ref a :: st) (x_vm g) n Q := v_get (i := 15) cf9 d125_8 (by decide) w710 hs hp ha h
theorem s125_11 {S : Nat × (Nat → Int32)} {L : List (Option Value)} {st : List Value} {n : Nat} {Q : xQ} {μ : xM}  (h : x_V S 125 12 L (.int (I 1) :: st) μ n Q) : x_V S 125 11 L (st) μ n Q := x_iconst (by decide +kernel) d125_11 h
theorem s125_12 {S : Nat × (Nat → Int32)} {L : List (Option Value)} {st : List Value} {n : Nat} {Q : xQ} {μ : xM} {x y : Int} (h : x_V S 125 13 L (.int (I (x - y)) :: st) μ n Q) : x_V S 125 12 L (.int (I y) :: .int (I x) :: st) μ n Q := v_isub d125_12 h
theorem s125_13 {S : Nat × (Nat → Int32)} {L : List (Option Value)} {st : List Value} {n : Nat} {Q : xQ} {μ : xM} {x0 : Int32} {x1 : Int32} {x2 : Int32} (hst : st.length ≤ 4) (h : x_V S 86 0 [some (.int x0), some (.int x1), some (.int x2)] [] μ n (x_bk S 125 13 L st Q)) : x_V S 125 13 L (.int x2 :: .int x1 :: .int x0 :: st) μ n Q := x_callS (k' := 86) (as := [.int x0, .int x1, .int x2]) (na := 3) d125_13 ⟨w828, by decide +kernel, by decide, by decide, by decide, by decide, by decide⟩ w826 w827 w10 (by decide +kernel) rfl (fun v hv => by
    simp only [List.mem_cons, List.not_mem_nil, or_false] at hv
    rcases hv with rfl | rfl | rfl <;> first | rfl | assumption) hst h
theorem s125_16 {S : Nat × (Nat → Int32)} {L : List (Option Value)} {st : List Value} {n : Nat} {Q : xQ} {μ : xM} {x : Int} (hx : ib x) (kt : x = 0 → x_V S 125 34 L (st) μ n Q) (kf : x ≠ 0 → x_V S 125 19 L (st) μ n Q) : x_V S 125 16 L (.int (I x) :: st) μ n Q := v_if_eq d125_16 (by decide) hx kt kf
theorem s125_19 {S : Nat × (Nat → Int32)} {L : List (Option Value)} {st : List Value} {n : Nat} {Q : xQ} {μ : xM} {x : Int32} (hl : L[1]? = some (some (.int x))) (h : x_V S 125 20 L (.int x :: st) μ n Q) : x_V S 125 19 L (st) μ n Q := x_iload_n d125_19 hl h
theorem s125_20 {S : Nat × (Nat → Int32)} {L : List (Option Value)} {st : List Value} {n : Nat} {Q : xQ} {μ : xM}  (h : x_V S 125 22 L (.int (I 20) :: st) μ n Q) : x_V S 125 20 L (st) μ n Q := x_bipush (by decide +kernel) d125_20 h
theorem s125_22 {S : Nat × (Nat → Int32)} {L : List (Option Value)} {st : List Value} {n : Nat} {Q : xQ} {μ : xM} {x y : Int} (hx : ib x) (hy : ib y) (kt : y ≤ x → x_V S 125 34 L (st) μ n Q) (kf : x < y → x_V S 125 25 L (st) μ n Q) : x_V S 125 22 L (.int (I y) :: .int (I x) :: st) μ n Q := v_icmp_ge d125_22 (by decide) hx hy kt kf
theorem s125_25 {S : Nat × (Nat → Int32)} {L : List (Option Value)} {st : List Value} {n : Nat} {Q : xQ} {μ : xM} {a : Nat} (hl : L[0]? = some (some (.ref a))) (h : x_V S 125 26 L (.ref a :: st) μ n Q) : x_V S 125 25 L (st) μ n Q := x_aload_n d125_25 hl h
theorem s125_25N {S : Nat × (Nat → Int32)} {L : List (Option Value)} {st : List Value} {n : Nat} {Q : xQ} {μ : xM} (hl : L[0]? = some (some .null)) (h : x_V S 125 26 L (.null :: st) μ n Q) : x_V S 125 25 L st μ n Q := x_aload_nN d125_25 hl h
theorem s125_26 {S : Nat × (Nat → Int32)} {L : List (Option Value)} {st : List Value} {n : Nat} {Q : xQ} {g : Nat → Nat → Int} {a : Nat} {v : Value} (hs : x_sh a = (9, 39)) (hp : x_pt a 17 = some v) (h : x_V S 125 29 L (v :: st) (x_vm g) n Q) : x_V S 125 26 L (.ref a :: st) (x_vm g) n Q := v_getp (i := 17) cf9 d125_26 (by decide) w712 hs hp h
theorem s125_29 {S : Nat × (Nat → Int32)} {L : List (Option Value)} {st : List Value} {n : Nat} {Q : xQ} {μ : xM} {x : Int32} (hl : L[1]? = some (some (.int x))) (h : x_V S 125 30 L (.int x :: st) μ n Q) : x_V S 125 29 L (st) μ n Q := x_iload_n d125_29 hl h
theorem s125_31 {S : Nat × (Nat → Int32)} {L : List (Option Value)} {st : List Value} {n : Nat} {Q : xQ} {μ : xM}  (h : x_V S 125 39 L (st) μ n Q) : x_V S 125 31 L (st) μ n Q := x_goto (tgt := 39) (by decide) d125_31 h
theorem s125_34 {S : Nat × (Nat → Int32)} {L : List (Option Value)} {st : List Value} {n : Nat} {Q : xQ} {μ : xM} {a : Nat} (hl : L[0]? = some (some (.ref a))) (h : x_V S 125 35 L (.ref a :: st) μ n Q) : x_V S 125 34 L (st) μ n Q := x_aload_n d125_34 hl h
theorem s125_34N {S : Nat × (Nat → Int32)} {L : List (Option Value)} {st : List Value} {n : Nat} {Q : xQ} {μ : xM} (hl : L[0]? = some (some .null)) (h : x_V S 125 35 L (.null :: st) μ n Q) : x_V S 125 34 L st μ n Q := x_aload_nN d125_34 hl h
theorem s125_35 {S : Nat × (Nat → Int32)} {L : List (Option Value)} {st : List Value} {n : Nat} {Q : xQ} {μ : xM}  (h : x_V S 125 36 L (.int (I 1) :: st) μ n Q) : x_V S 125 35 L (st) μ n Q := x_iconst (by decide +kernel) d125_35 h
theorem s125_36 {S : Nat × (Nat → Int32)} {L : List (Option Value)} {st : List Value} {n : Nat} {Q : xQ} {μ : xM} {x0 : Int32} {a : Nat} (hs : x_sh a = (9, 39)) (hst : st.length ≤ 4) (h : x_V S 85 0 [some (.ref a), some (.int x0)] [] μ n (x_bk S 125 36 L st Q)) : x_V S 125 36 L (.int x0 :: .ref a :: st) μ n Q := x_callV (k' := 85) (as := [.int x0]) (na := 1) d125_36 ⟨w832, by decide +kernel, by decide, by decide, by decide, by decide, by decide⟩ cf9 w829 w831 wp24 (by decide +kernel) rfl hs (fun v hv => by
    simp only [List.mem_cons, List.not_mem_nil, or_false] at hv
    rcases hv with rfl <;> first | rfl | assumption) hst h
theorem s125_39 {S : Nat × (Nat → Int32)} {L : List (Option Value)} {st : List Value} {n : Nat} {Q : xQ} {μ : xM} {x : Int32} (h : Q (.inl (some (.int x))) μ n) : x_V S 125 39 L (.int x :: []) μ n Q := x_ireturn d125_39 rfl rfl h
theorem mC_126 : mC 126 = prog_12_method_44_code := rfl
theorem d126_0 : decode (mC 126) 0 = .ok (.aload_n 0, 1) := by rw [mC_126]; decide +kernel
theorem d126_1 : decode (mC 126) 1 = .ok (.iconst 0, 1) := by rw [mC_126]; decide +kernel
theorem d126_2 : decode (mC 126) 2 = .ok (.putfield 60, 3) := by rw [mC_126]; decide +kernel
theorem d126_5 : decode (mC 126) 5 = .ok (.iload_n 1, 1) := by rw [mC_126]; decide +kernel
theorem d126_6 : decode (mC 126) 6 = .ok (.iconst 0, 1) := by rw [mC_126]; decide +kernel
theorem d126_7 : decode (mC 126) 7 = .ok (.aload_n 0, 1) := by rw [mC_126]; decide +kernel
theorem d126_8 : decode (mC 126) 8 = .ok (.getfield 70, 3) := by rw [mC_126]; decide +kernel
theorem d126_11 : decode (mC 126) 11 = .ok (.iconst 1, 1) := by rw [mC_126]; decide +kernel
theorem d126_12 : decode (mC 126) 12 = .ok (.isub, 1) := by rw [mC_126]; decide +kernel
theorem d126_13 : decode (mC 126) 13 = .ok (.invokestatic 139, 3) := by rw [mC_126]; decide +kernel
theorem d126_16 : decode (mC 126) 16 = .ok (.ifCond .eq 39, 3) := by rw [mC_126]; decide +kernel
theorem d126_19 : decode (mC 126) 19 = .ok (.iload_n 1, 1) := by rw [mC_126]; decide +kernel
theorem d126_20 : decode (mC 126) 20 = .ok (.bipush 20, 2) := by rw [mC_126]; decide +kernel
theorem d126_22 : decode (mC 126) 22 = .ok (.if_icmp .ge 33, 3) := by rw [mC_126]; decide +kernel
theorem d126_25 : decode (mC 126) 25 = .ok (.iload_n 2, 1) := by rw [mC_126]; decide +kernel
theorem d126_26 : decode (mC 126) 26 = .ok (.iconst 0, 1) := by rw [mC_126]; decide +kernel
theorem d126_27 : decode (mC 126) 27 = .ok (.aload_n 0, 1) := by rw [mC_126]; decide +kernel
theorem d126_28 : decode (mC 126) 28 = .ok (.getfield 25, 3) := by rw [mC_126]; decide +kernel
theorem d126_31 : decode (mC 126) 31 = .ok (.iload_n 1, 1) := by rw [mC_126]; decide +kernel
theorem d126_32 : decode (mC 126) 32 = .ok (.iaload, 1) := by rw [mC_126]; decide +kernel
theorem d126_33 : decode (mC 126) 33 = .ok (.iconst 1, 1) := by rw [mC_126]; decide +kernel
theorem d126_34 : decode (mC 126) 34 = .ok (.isub, 1) := by rw [mC_126]; decide +kernel
theorem d126_35 : decode (mC 126) 35 = .ok (.invokestatic 139, 3) := by rw [mC_126]; decide +kernel
theorem d126_38 : decode (mC 126) 38 = .ok (.ifCond .eq 17, 3) := by rw [mC_126]; decide +kernel
theorem d126_41 : decode (mC 126) 41 = .ok (.aload_n 0, 1) := by rw [mC_126]; decide +kernel
theorem d126_42 : decode (mC 126) 42 = .ok (.getfield 22, 3) := by rw [mC_126]; decide +kernel
theorem d126_45 : decode (mC 126) 45 = .ok (.bipush 120, 2) := by rw [mC_126]; decide +kernel
theorem d126_47 : decode (mC 126) 47 = .ok (.iload_n 1, 1) := by rw [mC_126]; decide +kernel
theorem d126_48 : decode (mC 126) 48 = .ok (.imul, 1) := by rw [mC_126]; decide +kernel
theorem d126_49 : decode (mC 126) 49 = .ok (.iload_n 2, 1) := by rw [mC_126]; decide +kernel
theorem d126_50 : decode (mC 126) 50 = .ok (.iadd, 1) := by rw [mC_126]; decide +kernel
theorem d126_51 : decode (mC 126) 51 = .ok (.iaload, 1) := by rw [mC_126]; decide +kernel
theorem d126_52 : decode (mC 126) 52 = .ok (.goto 8, 3) := by rw [mC_126]; decide +kernel
theorem d126_55 : decode (mC 126) 55 = .ok (.aload_n 0, 1) := by rw [mC_126]; decide +kernel
theorem d126_56 : decode (mC 126) 56 = .ok (.iconst 1, 1) := by rw [mC_126]; decide +kernel
theorem d126_57 : decode (mC 126) 57 = .ok (.invokevirtual 143, 3) := by rw [mC_126]; decide +kernel
theorem d126_60 : decode (mC 126) 60 = .ok (.ireturn, 1) := by rw [mC_126]; decide +kernel
theorem s126_0 {S : Nat × (Nat → Int32)} {L : List (Option Value)} {st : List Value} {n : Nat} {Q : xQ} {μ : xM} {a : Nat} (hl : L[0]? = some (some (.ref a))) (h : x_V S 126 1 L (.ref a :: st) μ n Q) : x_V S 126 0 L (st) μ n Q := x_aload_n d126_0 hl h
theorem s126_0N {S : Nat × (Nat → Int32)} {L : List (Option Value)} {st : List Value} {n : Nat} {Q : xQ} {μ : xM} (hl : L[0]? = some (some .null)) (h : x_V S 126 1 L (.null :: st) μ n Q) : x_V S 126 0 L st μ n Q := x_aload_nN d126_0 hl h
theorem s126_1 {S : Nat × (Nat → Int32)} {L : List (Option Value)} {st : List Value} {n : Nat} {Q : xQ} {μ : xM}  (h : x_V S 126 2 L (.int (I 0) :: st) μ n Q) : x_V S 126 1 L (st) μ n Q := x_iconst (by decide +kernel) d126_1 h
theorem s126_2 {S : Nat × (Nat → Int32)} {L : List (Option Value)} {st : List Value} {n : Nat} {Q : xQ} {g : Nat → Nat → Int} {a : Nat} {x : Int} (hs : x_sh a = (9, 39)) (hp : x_pt a 0 = none) (ha : a ≠ x_out) (h : x_V S 126 5 L (st) (x_vm (x_uf g a 0 x)) n Q) : x_V S 126 2 L (.int (I x) :: .ref a :: st) (x_vm g) n Q := v_put (i := 0) cf9 d126_2 (by decide) rfl w695 hs rfl hp ha h
theorem s126_5 {S : Nat × (Nat → Int32)} {L : List (Option Value)} {st : List Value} {n : Nat} {Q : xQ} {μ : xM} {x : Int32} (hl : L[1]? = some (some (.int x))) (h : x_V S 126 6 L (.int x :: st) μ n Q) : x_V S 126 5 L (st) μ n Q := x_iload_n d126_5 hl h
theorem s126_6 {S : Nat × (Nat → Int32)} {L : List (Option Value)} {st : List Value} {n : Nat} {Q : xQ} {μ : xM}  (h : x_V S 126 7 L (.int (I 0) :: st) μ n Q) : x_V S 126 6 L (st) μ n Q := x_iconst (by decide +kernel) d126_6 h
theorem s126_7 {S : Nat × (Nat → Int32)} {L : List (Option Value)} {st : List Value} {n : Nat} {Q : xQ} {μ : xM} {a : Nat} (hl : L[0]? = some (some (.ref a))) (h : x_V S 126 8 L (.ref a :: st) μ n Q) : x_V S 126 7 L (st) μ n Q := x_aload_n d126_7 hl h
theorem s126_7N {S : Nat × (Nat → Int32)} {L : List (Option Value)} {st : List Value} {n : Nat} {Q : xQ} {μ : xM} (hl : L[0]? = some (some .null)) (h : x_V S 126 8 L (.null :: st) μ n Q) : x_V S 126 7 L st μ n Q := x_aload_nN d126_7 hl h
theorem s126_8 {S : Nat × (Nat → Int32)} {L : List (Option Value)} {st : List Value} {n : Nat} {Q : xQ} {g : Nat → Nat → Int} {a : Nat} (hs : x_sh a = (9, 39)) (hp : x_pt a 15 = none) (ha : a ≠ x_out) (h : x_V S 126 11 L (.int (I (g a 15)) :: st) (x_vm g) n Q) : x_V S 126 8 L (.ref a :: st) (x_vm g) n Q := v_get (i := 15) cf9 d126_8 (by decide) w710 hs hp ha h
theorem s126_11 {S : Nat × (Nat → Int32)} {L : List (Option Value)} {st : List Value} {n : Nat} {Q : xQ} {μ : xM}  (h : x_V S 126 12 L (.int (I 1) :: st) μ n Q) : x_V S 126 11 L (st) μ n Q := x_iconst (by decide +kernel) d126_11 h
theorem s126_12 {S : Nat × (Nat → Int32)} {L : List (Option Value)} {st : List Value} {n : Nat} {Q : xQ} {μ : xM} {x y : Int} (h : x_V S 126 13 L (.int (I (x - y)) :: st) μ n Q) : x_V S 126 12 L (.int (I y) :: .int (I x) :: st) μ n Q := v_isub d126_12 h
theorem s126_13 {S : Nat × (Nat → Int32)} {L : List (Option Value)} {st : List Value} {n : Nat} {Q : xQ} {μ : xM} {x0 : Int32} {x1 : Int32} {x2 : Int32} (hst : st.length ≤ 4) (h : x_V S 86 0 [some (.int x0), some (.int x1), some (.int x2)] [] μ n (x_bk S 126 13 L st Q)) : x_V S 126 13 L (.int x2 :: .int x1 :: .int x0 :: st) μ n Q := x_callS (k' := 86) (as := [.int x0, .int x1, .int x2]) (na := 3) d126_13 ⟨w828, by decide +kernel, by decide, by decide, by decide, by decide, by decide⟩ w826 w827 w10 (by decide +kernel) rfl (fun v hv => by
    simp only [List.mem_cons, List.not_mem_nil, or_false] at hv
    rcases hv with rfl | rfl | rfl <;> first | rfl | assumption) hst h
theorem s126_16 {S : Nat × (Nat → Int32)} {L : List (Option Value)} {st : List Value} {n : Nat} {Q : xQ} {μ : xM} {x : Int} (hx : ib x) (kt : x = 0 → x_V S 126 55 L (st) μ n Q) (kf : x ≠ 0 → x_V S 126 19 L (st) μ n Q) : x_V S 126 16 L (.int (I x) :: st) μ n Q := v_if_eq d126_16 (by decide) hx kt kf
theorem s126_19 {S : Nat × (Nat → Int32)} {L : List (Option Value)} {st : List Value} {n : Nat} {Q : xQ} {μ : xM} {x : Int32} (hl : L[1]? = some (some (.int x))) (h : x_V S 126 20 L (.int x :: st) μ n Q) : x_V S 126 19 L (st) μ n Q := x_iload_n d126_19 hl h
theorem s126_20 {S : Nat × (Nat → Int32)} {L : List (Option Value)} {st : List Value} {n : Nat} {Q : xQ} {μ : xM}  (h : x_V S 126 22 L (.int (I 20) :: st) μ n Q) : x_V S 126 20 L (st) μ n Q := x_bipush (by decide +kernel) d126_20 h
theorem s126_22 {S : Nat × (Nat → Int32)} {L : List (Option Value)} {st : List Value} {n : Nat} {Q : xQ} {μ : xM} {x y : Int} (hx : ib x) (hy : ib y) (kt : y ≤ x → x_V S 126 55 L (st) μ n Q) (kf : x < y → x_V S 126 25 L (st) μ n Q) : x_V S 126 22 L (.int (I y) :: .int (I x) :: st) μ n Q := v_icmp_ge d126_22 (by decide) hx hy kt kf
theorem s126_25 {S : Nat × (Nat → Int32)} {L : List (Option Value)} {st : List Value} {n : Nat} {Q : xQ} {μ : xM} {x : Int32} (hl : L[2]? = some (some (.int x))) (h : x_V S 126 26 L (.int x :: st) μ n Q) : x_V S 126 25 L (st) μ n Q := x_iload_n d126_25 hl h
theorem s126_26 {S : Nat × (Nat → Int32)} {L : List (Option Value)} {st : List Value} {n : Nat} {Q : xQ} {μ : xM}  (h : x_V S 126 27 L (.int (I 0) :: st) μ n Q) : x_V S 126 26 L (st) μ n Q := x_iconst (by decide +kernel) d126_26 h
theorem s126_27 {S : Nat × (Nat → Int32)} {L : List (Option Value)} {st : List Value} {n : Nat} {Q : xQ} {μ : xM} {a : Nat} (hl : L[0]? = some (some (.ref a))) (h : x_V S 126 28 L (.ref a :: st) μ n Q) : x_V S 126 27 L (st) μ n Q := x_aload_n d126_27 hl h
theorem s126_27N {S : Nat × (Nat → Int32)} {L : List (Option Value)} {st : List Value} {n : Nat} {Q : xQ} {μ : xM} (hl : L[0]? = some (some .null)) (h : x_V S 126 28 L (.null :: st) μ n Q) : x_V S 126 27 L st μ n Q := x_aload_nN d126_27 hl h
theorem s126_28 {S : Nat × (Nat → Int32)} {L : List (Option Value)} {st : List Value} {n : Nat} {Q : xQ} {g : Nat → Nat → Int} {a : Nat} {v : Value} (hs : x_sh a = (9, 39)) (hp : x_pt a 17 = some v) (h : x_V S 126 31 L (v :: st) (x_vm g) n Q) : x_V S 126 28 L (.ref a :: st) (x_vm g) n Q := v_getp (i := 17) cf9 d126_28 (by decide) w712 hs hp h
theorem s126_31 {S : Nat × (Nat → Int32)} {L : List (Option Value)} {st : List Value} {n : Nat} {Q : xQ} {μ : xM} {x : Int32} (hl : L[1]? = some (some (.int x))) (h : x_V S 126 32 L (.int x :: st) μ n Q) : x_V S 126 31 L (st) μ n Q := x_iload_n d126_31 hl h
theorem s126_33 {S : Nat × (Nat → Int32)} {L : List (Option Value)} {st : List Value} {n : Nat} {Q : xQ} {μ : xM}  (h : x_V S 126 34 L (.int (I 1) :: st) μ n Q) : x_V S 126 33 L (st) μ n Q := x_iconst (by decide +kernel) d126_33 h
theorem s126_34 {S : Nat × (Nat → Int32)} {L : List (Option Value)} {st : List Value} {n : Nat} {Q : xQ} {μ : xM} {x y : Int} (h : x_V S 126 35 L (.int (I (x - y)) :: st) μ n Q) : x_V S 126 34 L (.int (I y) :: .int (I x) :: st) μ n Q := v_isub d126_34 h
theorem s126_35 {S : Nat × (Nat → Int32)} {L : List (Option Value)} {st : List Value} {n : Nat} {Q : xQ} {μ : xM} {x0 : Int32} {x1 : Int32} {x2 : Int32} (hst : st.length ≤ 4) (h : x_V S 86 0 [some (.int x0), some (.int x1), some (.int x2)] [] μ n (x_bk S 126 35 L st Q)) : x_V S 126 35 L (.int x2 :: .int x1 :: .int x0 :: st) μ n Q := x_callS (k' := 86) (as := [.int x0, .int x1, .int x2]) (na := 3) d126_35 ⟨w828, by decide +kernel, by decide, by decide, by decide, by decide, by decide⟩ w826 w827 w10 (by decide +kernel) rfl (fun v hv => by
    simp only [List.mem_cons, List.not_mem_nil, or_false] at hv
    rcases hv with rfl | rfl | rfl <;> first | rfl | assumption) hst h
theorem s126_38 {S : Nat × (Nat → Int32)} {L : List (Option Value)} {st : List Value} {n : Nat} {Q : xQ} {μ : xM} {x : Int} (hx : ib x) (kt : x = 0 → x_V S 126 55 L (st) μ n Q) (kf : x ≠ 0 → x_V S 126 41 L (st) μ n Q) : x_V S 126 38 L (.int (I x) :: st) μ n Q := v_if_eq d126_38 (by decide) hx kt kf
theorem s126_41 {S : Nat × (Nat → Int32)} {L : List (Option Value)} {st : List Value} {n : Nat} {Q : xQ} {μ : xM} {a : Nat} (hl : L[0]? = some (some (.ref a))) (h : x_V S 126 42 L (.ref a :: st) μ n Q) : x_V S 126 41 L (st) μ n Q := x_aload_n d126_41 hl h
theorem s126_41N {S : Nat × (Nat → Int32)} {L : List (Option Value)} {st : List Value} {n : Nat} {Q : xQ} {μ : xM} (hl : L[0]? = some (some .null)) (h : x_V S 126 42 L (.null :: st) μ n Q) : x_V S 126 41 L st μ n Q := x_aload_nN d126_41 hl h
theorem s126_42 {S : Nat × (Nat → Int32)} {L : List (Option Value)} {st : List Value} {n : Nat} {Q : xQ} {g : Nat → Nat → Int} {a : Nat} {v : Value} (hs : x_sh a = (9, 39)) (hp : x_pt a 16 = some v) (h : x_V S 126 45 L (v :: st) (x_vm g) n Q) : x_V S 126 42 L (.ref a :: st) (x_vm g) n Q := v_getp (i := 16) cf9 d126_42 (by decide) w711 hs hp h
theorem s126_45 {S : Nat × (Nat → Int32)} {L : List (Option Value)} {st : List Value} {n : Nat} {Q : xQ} {μ : xM}  (h : x_V S 126 47 L (.int (I 120) :: st) μ n Q) : x_V S 126 45 L (st) μ n Q := x_bipush (by decide +kernel) d126_45 h
theorem s126_47 {S : Nat × (Nat → Int32)} {L : List (Option Value)} {st : List Value} {n : Nat} {Q : xQ} {μ : xM} {x : Int32} (hl : L[1]? = some (some (.int x))) (h : x_V S 126 48 L (.int x :: st) μ n Q) : x_V S 126 47 L (st) μ n Q := x_iload_n d126_47 hl h
theorem s126_48 {S : Nat × (Nat → Int32)} {L : List (Option Value)} {st : List Value} {n : Nat} {Q : xQ} {μ : xM} {x y : Int} (h : x_V S 126 49 L (.int (I (x * y)) :: st) μ n Q) : x_V S 126 48 L (.int (I y) :: .int (I x) :: st) μ n Q := v_imul d126_48 h
theorem s126_49 {S : Nat × (Nat → Int32)} {L : List (Option Value)} {st : List Value} {n : Nat} {Q : xQ} {μ : xM} {x : Int32} (hl : L[2]? = some (some (.int x))) (h : x_V S 126 50 L (.int x :: st) μ n Q) : x_V S 126 49 L (st) μ n Q := x_iload_n d126_49 hl h
theorem s126_50 {S : Nat × (Nat → Int32)} {L : List (Option Value)} {st : List Value} {n : Nat} {Q : xQ} {μ : xM} {x y : Int} (h : x_V S 126 51 L (.int (I (x + y)) :: st) μ n Q) : x_V S 126 50 L (.int (I y) :: .int (I x) :: st) μ n Q := v_iadd d126_50 h
theorem s126_52 {S : Nat × (Nat → Int32)} {L : List (Option Value)} {st : List Value} {n : Nat} {Q : xQ} {μ : xM}  (h : x_V S 126 60 L (st) μ n Q) : x_V S 126 52 L (st) μ n Q := x_goto (tgt := 60) (by decide) d126_52 h
theorem s126_55 {S : Nat × (Nat → Int32)} {L : List (Option Value)} {st : List Value} {n : Nat} {Q : xQ} {μ : xM} {a : Nat} (hl : L[0]? = some (some (.ref a))) (h : x_V S 126 56 L (.ref a :: st) μ n Q) : x_V S 126 55 L (st) μ n Q := x_aload_n d126_55 hl h
theorem s126_55N {S : Nat × (Nat → Int32)} {L : List (Option Value)} {st : List Value} {n : Nat} {Q : xQ} {μ : xM} (hl : L[0]? = some (some .null)) (h : x_V S 126 56 L (.null :: st) μ n Q) : x_V S 126 55 L st μ n Q := x_aload_nN d126_55 hl h
theorem s126_56 {S : Nat × (Nat → Int32)} {L : List (Option Value)} {st : List Value} {n : Nat} {Q : xQ} {μ : xM}  (h : x_V S 126 57 L (.int (I 1) :: st) μ n Q) : x_V S 126 56 L (st) μ n Q := x_iconst (by decide +kernel) d126_56 h
theorem s126_57 {S : Nat × (Nat → Int32)} {L : List (Option Value)} {st : List Value} {n : Nat} {Q : xQ} {μ : xM} {x0 : Int32} {a : Nat} (hs : x_sh a = (9, 39)) (hst : st.length ≤ 4) (h : x_V S 85 0 [some (.ref a), some (.int x0)] [] μ n (x_bk S 126 57 L st Q)) : x_V S 126 57 L (.int x0 :: .ref a :: st) μ n Q := x_callV (k' := 85) (as := [.int x0]) (na := 1) d126_57 ⟨w832, by decide +kernel, by decide, by decide, by decide, by decide, by decide⟩ cf9 w829 w831 wp24 (by decide +kernel) rfl hs (fun v hv => by
    simp only [List.mem_cons, List.not_mem_nil, or_false] at hv
    rcases hv with rfl <;> first | rfl | assumption) hst h
theorem s126_60 {S : Nat × (Nat → Int32)} {L : List (Option Value)} {st : List Value} {n : Nat} {Q : xQ} {μ : xM} {x : Int32} (h : Q (.inl (some (.int x))) μ n) : x_V S 126 60 L (.int x :: []) μ n Q := x_ireturn d126_60 rfl rfl h
theorem mC_127 : mC 127 = prog_12_method_45_code := rfl
theorem d127_0 : decode (mC 127) 0 = .ok (.aload_n 0, 1) := by rw [mC_127]; decide +kernel
theorem d127_1 : decode (mC 127) 1 = .ok (.iconst 0, 1) := by rw [mC_127]; decide +kernel
theorem d127_2 : decode (mC 127) 2 = .ok (.putfield 60, 3) := by rw [mC_127]; decide +kernel
theorem d127_5 : decode (mC 127) 5 = .ok (.iload_n 1, 1) := by rw [mC_127]; decide +kernel
theorem d127_6 : decode (mC 127) 6 = .ok (.iconst 0, 1) := by rw [mC_127]; decide +kernel
theorem d127_7 : decode (mC 127) 7 = .ok (.bipush 6, 2) := by rw [mC_127]; decide +kernel
theorem d127_9 : decode (mC 127) 9 = .ok (.invokestatic 139, 3) := by rw [mC_127]; decide +kernel
theorem d127_12 : decode (mC 127) 12 = .ok (.ifCond .ne 9, 3) := by rw [mC_127]; decide +kernel
theorem d127_15 : decode (mC 127) 15 = .ok (.aload_n 0, 1) := by rw [mC_127]; decide +kernel
theorem d127_16 : decode (mC 127) 16 = .ok (.iconst 1, 1) := by rw [mC_127]; decide +kernel
theorem d127_17 : decode (mC 127) 17 = .ok (.invokevirtual 143, 3) := by rw [mC_127]; decide +kernel
theorem d127_20 : decode (mC 127) 20 = .ok (.ireturn, 1) := by rw [mC_127]; decide +kernel
theorem d127_21 : decode (mC 127) 21 = .ok (.iload_n 1, 1) := by rw [mC_127]; decide +kernel
theorem d127_22 : decode (mC 127) 22 = .ok (.iconst 4, 1) := by rw [mC_127]; decide +kernel
theorem d127_23 : decode (mC 127) 23 = .ok (.if_icmp .ge 51, 3) := by rw [mC_127]; decide +kernel
theorem d127_26 : decode (mC 127) 26 = .ok (.iload_n 1, 1) := by rw [mC_127]; decide +kernel
theorem d127_27 : decode (mC 127) 27 = .ok (.ifCond .ne 10, 3) := by rw [mC_127]; decide +kernel
theorem d127_30 : decode (mC 127) 30 = .ok (.aload_n 0, 1) := by rw [mC_127]; decide +kernel
theorem d127_31 : decode (mC 127) 31 = .ok (.getfield 28, 3) := by rw [mC_127]; decide +kernel
theorem d127_34 : decode (mC 127) 34 = .ok (.goto 39, 3) := by rw [mC_127]; decide +kernel
theorem d127_37 : decode (mC 127) 37 = .ok (.iload_n 1, 1) := by rw [mC_127]; decide +kernel
theorem d127_38 : decode (mC 127) 38 = .ok (.iconst 1, 1) := by rw [mC_127]; decide +kernel
theorem d127_39 : decode (mC 127) 39 = .ok (.if_icmp .ne 10, 3) := by rw [mC_127]; decide +kernel
theorem d127_42 : decode (mC 127) 42 = .ok (.aload_n 0, 1) := by rw [mC_127]; decide +kernel
theorem d127_43 : decode (mC 127) 43 = .ok (.getfield 32, 3) := by rw [mC_127]; decide +kernel
theorem d127_46 : decode (mC 127) 46 = .ok (.goto 27, 3) := by rw [mC_127]; decide +kernel
theorem d127_49 : decode (mC 127) 49 = .ok (.iload_n 1, 1) := by rw [mC_127]; decide +kernel
theorem d127_50 : decode (mC 127) 50 = .ok (.iconst 2, 1) := by rw [mC_127]; decide +kernel
theorem d127_51 : decode (mC 127) 51 = .ok (.if_icmp .ne 10, 3) := by rw [mC_127]; decide +kernel
theorem d127_54 : decode (mC 127) 54 = .ok (.aload_n 0, 1) := by rw [mC_127]; decide +kernel
theorem d127_55 : decode (mC 127) 55 = .ok (.getfield 128, 3) := by rw [mC_127]; decide +kernel
theorem d127_58 : decode (mC 127) 58 = .ok (.goto 15, 3) := by rw [mC_127]; decide +kernel
theorem d127_61 : decode (mC 127) 61 = .ok (.aload_n 0, 1) := by rw [mC_127]; decide +kernel
theorem d127_62 : decode (mC 127) 62 = .ok (.getfield 118, 3) := by rw [mC_127]; decide +kernel
theorem d127_65 : decode (mC 127) 65 = .ok (.ifCond .eq 7, 3) := by rw [mC_127]; decide +kernel
theorem d127_68 : decode (mC 127) 68 = .ok (.iconst 1, 1) := by rw [mC_127]; decide +kernel
theorem d127_69 : decode (mC 127) 69 = .ok (.goto 4, 3) := by rw [mC_127]; decide +kernel
theorem d127_72 : decode (mC 127) 72 = .ok (.iconst 0, 1) := by rw [mC_127]; decide +kernel
theorem d127_73 : decode (mC 127) 73 = .ok (.ireturn, 1) := by rw [mC_127]; decide +kernel
theorem d127_74 : decode (mC 127) 74 = .ok (.iload_n 1, 1) := by rw [mC_127]; decide +kernel
theorem d127_75 : decode (mC 127) 75 = .ok (.iconst 4, 1) := by rw [mC_127]; decide +kernel
theorem d127_76 : decode (mC 127) 76 = .ok (.if_icmp .ne 10, 3) := by rw [mC_127]; decide +kernel
theorem d127_79 : decode (mC 127) 79 = .ok (.aload_n 0, 1) := by rw [mC_127]; decide +kernel
theorem d127_80 : decode (mC 127) 80 = .ok (.getfield 112, 3) := by rw [mC_127]; decide +kernel
theorem d127_83 : decode (mC 127) 83 = .ok (.goto 19, 3) := by rw [mC_127]; decide +kernel
theorem d127_86 : decode (mC 127) 86 = .ok (.iload_n 1, 1) := by rw [mC_127]; decide +kernel
theorem d127_87 : decode (mC 127) 87 = .ok (.iconst 5, 1) := by rw [mC_127]; decide +kernel
theorem d127_88 : decode (mC 127) 88 = .ok (.if_icmp .ne 10, 3) := by rw [mC_127]; decide +kernel
theorem d127_91 : decode (mC 127) 91 = .ok (.aload_n 0, 1) := by rw [mC_127]; decide +kernel
theorem d127_92 : decode (mC 127) 92 = .ok (.getfield 192, 3) := by rw [mC_127]; decide +kernel
theorem d127_95 : decode (mC 127) 95 = .ok (.goto 7, 3) := by rw [mC_127]; decide +kernel
theorem d127_98 : decode (mC 127) 98 = .ok (.aload_n 0, 1) := by rw [mC_127]; decide +kernel
theorem d127_99 : decode (mC 127) 99 = .ok (.getfield 204, 3) := by rw [mC_127]; decide +kernel
theorem d127_102 : decode (mC 127) 102 = .ok (.ireturn, 1) := by rw [mC_127]; decide +kernel
theorem s127_0 {S : Nat × (Nat → Int32)} {L : List (Option Value)} {st : List Value} {n : Nat} {Q : xQ} {μ : xM} {a : Nat} (hl : L[0]? = some (some (.ref a))) (h : x_V S 127 1 L (.ref a :: st) μ n Q) : x_V S 127 0 L (st) μ n Q := x_aload_n d127_0 hl h
theorem s127_0N {S : Nat × (Nat → Int32)} {L : List (Option Value)} {st : List Value} {n : Nat} {Q : xQ} {μ : xM} (hl : L[0]? = some (some .null)) (h : x_V S 127 1 L (.null :: st) μ n Q) : x_V S 127 0 L st μ n Q := x_aload_nN d127_0 hl h
theorem s127_1 {S : Nat × (Nat → Int32)} {L : List (Option Value)} {st : List Value} {n : Nat} {Q : xQ} {μ : xM}  (h : x_V S 127 2 L (.int (I 0) :: st) μ n Q) : x_V S 127 1 L (st) μ n Q := x_iconst (by decide +kernel) d127_1 h
theorem s127_2 {S : Nat × (Nat → Int32)} {L : List (Option Value)} {st : List Value} {n : Nat} {Q : xQ} {g : Nat → Nat → Int} {a : Nat} {x : Int} (hs : x_sh a = (9, 39)) (hp : x_pt a 0 = none) (ha : a ≠ x_out) (h : x_V S 127 5 L (st) (x_vm (x_uf g a 0 x)) n Q) : x_V S 127 2 L (.int (I x) :: .ref a :: st) (x_vm g) n Q := v_put (i := 0) cf9 d127_2 (by decide) rfl w695 hs rfl hp ha h
theorem s127_5 {S : Nat × (Nat → Int32)} {L : List (Option Value)} {st : List Value} {n : Nat} {Q : xQ} {μ : xM} {x : Int32} (hl : L[1]? = some (some (.int x))) (h : x_V S 127 6 L (.int x :: st) μ n Q) : x_V S 127 5 L (st) μ n Q := x_iload_n d127_5 hl h
theorem s127_6 {S : Nat × (Nat → Int32)} {L : List (Option Value)} {st : List Value} {n : Nat} {Q : xQ} {μ : xM}  (h : x_V S 127 7 L (.int (I 0) :: st) μ n Q) : x_V S 127 6 L (st) μ n Q := x_iconst (by decide +kernel) d127_6 h
theorem s127_7 {S : Nat × (Nat → Int32)} {L : List (Option Value)} {st : List Value} {n : Nat} {Q : xQ} {μ : xM}  (h : x_V S 127 9 L (.int (I 6) :: st) μ n Q) : x_V S 127 7 L (st) μ n Q := x_bipush (by decide +kernel) d127_7 h
theorem s127_9 {S : Nat × (Nat → Int32)} {L : List (Option Value)} {st : List Value} {n : Nat} {Q : xQ} {μ : xM} {x0 : Int32} {x1 : Int32} {x2 : Int32} (hst : st.length ≤ 4) (h : x_V S 86 0 [some (.int x0), some (.int x1), some (.int x2)] [] μ n (x_bk S 127 9 L st Q)) : x_V S 127 9 L (.int x2 :: .int x1 :: .int x0 :: st) μ n Q := x_callS (k' := 86) (as := [.int x0, .int x1, .int x2]) (na := 3) d127_9 ⟨w828, by decide +kernel, by decide, by decide, by decide, by decide, by decide⟩ w826 w827 w10 (by decide +kernel) rfl (fun v hv => by
    simp only [List.mem_cons, List.not_mem_nil, or_false] at hv
    rcases hv with rfl | rfl | rfl <;> first | rfl | assumption) hst h
theorem s127_12 {S : Nat × (Nat → Int32)} {L : List (Option Value)} {st : List Value} {n : Nat} {Q : xQ} {μ : xM} {x : Int} (hx : ib x) (kt : x ≠ 0 → x_V S 127 21 L (st) μ n Q) (kf : x = 0 → x_V S 127 15 L (st) μ n Q) : x_V S 127 12 L (.int (I x) :: st) μ n Q := v_if_ne d127_12 (by decide) hx kt kf
theorem s127_15 {S : Nat × (Nat → Int32)} {L : List (Option Value)} {st : List Value} {n : Nat} {Q : xQ} {μ : xM} {a : Nat} (hl : L[0]? = some (some (.ref a))) (h : x_V S 127 16 L (.ref a :: st) μ n Q) : x_V S 127 15 L (st) μ n Q := x_aload_n d127_15 hl h
theorem s127_15N {S : Nat × (Nat → Int32)} {L : List (Option Value)} {st : List Value} {n : Nat} {Q : xQ} {μ : xM} (hl : L[0]? = some (some .null)) (h : x_V S 127 16 L (.null :: st) μ n Q) : x_V S 127 15 L st μ n Q := x_aload_nN d127_15 hl h
theorem s127_16 {S : Nat × (Nat → Int32)} {L : List (Option Value)} {st : List Value} {n : Nat} {Q : xQ} {μ : xM}  (h : x_V S 127 17 L (.int (I 1) :: st) μ n Q) : x_V S 127 16 L (st) μ n Q := x_iconst (by decide +kernel) d127_16 h
theorem s127_17 {S : Nat × (Nat → Int32)} {L : List (Option Value)} {st : List Value} {n : Nat} {Q : xQ} {μ : xM} {x0 : Int32} {a : Nat} (hs : x_sh a = (9, 39)) (hst : st.length ≤ 4) (h : x_V S 85 0 [some (.ref a), some (.int x0)] [] μ n (x_bk S 127 17 L st Q)) : x_V S 127 17 L (.int x0 :: .ref a :: st) μ n Q := x_callV (k' := 85) (as := [.int x0]) (na := 1) d127_17 ⟨w832, by decide +kernel, by decide, by decide, by decide, by decide, by decide⟩ cf9 w829 w831 wp24 (by decide +kernel) rfl hs (fun v hv => by
    simp only [List.mem_cons, List.not_mem_nil, or_false] at hv
    rcases hv with rfl <;> first | rfl | assumption) hst h
theorem s127_20 {S : Nat × (Nat → Int32)} {L : List (Option Value)} {st : List Value} {n : Nat} {Q : xQ} {μ : xM} {x : Int32} (h : Q (.inl (some (.int x))) μ n) : x_V S 127 20 L (.int x :: []) μ n Q := x_ireturn d127_20 rfl rfl h
theorem s127_21 {S : Nat × (Nat → Int32)} {L : List (Option Value)} {st : List Value} {n : Nat} {Q : xQ} {μ : xM} {x : Int32} (hl : L[1]? = some (some (.int x))) (h : x_V S 127 22 L (.int x :: st) μ n Q) : x_V S 127 21 L (st) μ n Q := x_iload_n d127_21 hl h
theorem s127_22 {S : Nat × (Nat → Int32)} {L : List (Option Value)} {st : List Value} {n : Nat} {Q : xQ} {μ : xM}  (h : x_V S 127 23 L (.int (I 4) :: st) μ n Q) : x_V S 127 22 L (st) μ n Q := x_iconst (by decide +kernel) d127_22 h
theorem s127_23 {S : Nat × (Nat → Int32)} {L : List (Option Value)} {st : List Value} {n : Nat} {Q : xQ} {μ : xM} {x y : Int} (hx : ib x) (hy : ib y) (kt : y ≤ x → x_V S 127 74 L (st) μ n Q) (kf : x < y → x_V S 127 26 L (st) μ n Q) : x_V S 127 23 L (.int (I y) :: .int (I x) :: st) μ n Q := v_icmp_ge d127_23 (by decide) hx hy kt kf
theorem s127_26 {S : Nat × (Nat → Int32)} {L : List (Option Value)} {st : List Value} {n : Nat} {Q : xQ} {μ : xM} {x : Int32} (hl : L[1]? = some (some (.int x))) (h : x_V S 127 27 L (.int x :: st) μ n Q) : x_V S 127 26 L (st) μ n Q := x_iload_n d127_26 hl h
theorem s127_27 {S : Nat × (Nat → Int32)} {L : List (Option Value)} {st : List Value} {n : Nat} {Q : xQ} {μ : xM} {x : Int} (hx : ib x) (kt : x ≠ 0 → x_V S 127 37 L (st) μ n Q) (kf : x = 0 → x_V S 127 30 L (st) μ n Q) : x_V S 127 27 L (.int (I x) :: st) μ n Q := v_if_ne d127_27 (by decide) hx kt kf
theorem s127_30 {S : Nat × (Nat → Int32)} {L : List (Option Value)} {st : List Value} {n : Nat} {Q : xQ} {μ : xM} {a : Nat} (hl : L[0]? = some (some (.ref a))) (h : x_V S 127 31 L (.ref a :: st) μ n Q) : x_V S 127 30 L (st) μ n Q := x_aload_n d127_30 hl h
theorem s127_30N {S : Nat × (Nat → Int32)} {L : List (Option Value)} {st : List Value} {n : Nat} {Q : xQ} {μ : xM} (hl : L[0]? = some (some .null)) (h : x_V S 127 31 L (.null :: st) μ n Q) : x_V S 127 30 L st μ n Q := x_aload_nN d127_30 hl h
theorem s127_31 {S : Nat × (Nat → Int32)} {L : List (Option Value)} {st : List Value} {n : Nat} {Q : xQ} {g : Nat → Nat → Int} {a : Nat} (hs : x_sh a = (9, 39)) (hp : x_pt a 20 = none) (ha : a ≠ x_out) (h : x_V S 127 34 L (.int (I (g a 20)) :: st) (x_vm g) n Q) : x_V S 127 31 L (.ref a :: st) (x_vm g) n Q := v_get (i := 20) cf9 d127_31 (by decide) w715 hs hp ha h
theorem s127_34 {S : Nat × (Nat → Int32)} {L : List (Option Value)} {st : List Value} {n : Nat} {Q : xQ} {μ : xM}  (h : x_V S 127 73 L (st) μ n Q) : x_V S 127 34 L (st) μ n Q := x_goto (tgt := 73) (by decide) d127_34 h
theorem s127_37 {S : Nat × (Nat → Int32)} {L : List (Option Value)} {st : List Value} {n : Nat} {Q : xQ} {μ : xM} {x : Int32} (hl : L[1]? = some (some (.int x))) (h : x_V S 127 38 L (.int x :: st) μ n Q) : x_V S 127 37 L (st) μ n Q := x_iload_n d127_37 hl h
theorem s127_38 {S : Nat × (Nat → Int32)} {L : List (Option Value)} {st : List Value} {n : Nat} {Q : xQ} {μ : xM}  (h : x_V S 127 39 L (.int (I 1) :: st) μ n Q) : x_V S 127 38 L (st) μ n Q := x_iconst (by decide +kernel) d127_38 h
theorem s127_39 {S : Nat × (Nat → Int32)} {L : List (Option Value)} {st : List Value} {n : Nat} {Q : xQ} {μ : xM} {x y : Int} (hx : ib x) (hy : ib y) (kt : x ≠ y → x_V S 127 49 L (st) μ n Q) (kf : x = y → x_V S 127 42 L (st) μ n Q) : x_V S 127 39 L (.int (I y) :: .int (I x) :: st) μ n Q := v_icmp_ne d127_39 (by decide) hx hy kt kf
theorem s127_42 {S : Nat × (Nat → Int32)} {L : List (Option Value)} {st : List Value} {n : Nat} {Q : xQ} {μ : xM} {a : Nat} (hl : L[0]? = some (some (.ref a))) (h : x_V S 127 43 L (.ref a :: st) μ n Q) : x_V S 127 42 L (st) μ n Q := x_aload_n d127_42 hl h
theorem s127_42N {S : Nat × (Nat → Int32)} {L : List (Option Value)} {st : List Value} {n : Nat} {Q : xQ} {μ : xM} (hl : L[0]? = some (some .null)) (h : x_V S 127 43 L (.null :: st) μ n Q) : x_V S 127 42 L st μ n Q := x_aload_nN d127_42 hl h
theorem s127_43 {S : Nat × (Nat → Int32)} {L : List (Option Value)} {st : List Value} {n : Nat} {Q : xQ} {g : Nat → Nat → Int} {a : Nat} (hs : x_sh a = (9, 39)) (hp : x_pt a 21 = none) (ha : a ≠ x_out) (h : x_V S 127 46 L (.int (I (g a 21)) :: st) (x_vm g) n Q) : x_V S 127 43 L (.ref a :: st) (x_vm g) n Q := v_get (i := 21) cf9 d127_43 (by decide) w716 hs hp ha h
theorem s127_46 {S : Nat × (Nat → Int32)} {L : List (Option Value)} {st : List Value} {n : Nat} {Q : xQ} {μ : xM}  (h : x_V S 127 73 L (st) μ n Q) : x_V S 127 46 L (st) μ n Q := x_goto (tgt := 73) (by decide) d127_46 h
theorem s127_49 {S : Nat × (Nat → Int32)} {L : List (Option Value)} {st : List Value} {n : Nat} {Q : xQ} {μ : xM} {x : Int32} (hl : L[1]? = some (some (.int x))) (h : x_V S 127 50 L (.int x :: st) μ n Q) : x_V S 127 49 L (st) μ n Q := x_iload_n d127_49 hl h
theorem s127_50 {S : Nat × (Nat → Int32)} {L : List (Option Value)} {st : List Value} {n : Nat} {Q : xQ} {μ : xM}  (h : x_V S 127 51 L (.int (I 2) :: st) μ n Q) : x_V S 127 50 L (st) μ n Q := x_iconst (by decide +kernel) d127_50 h
theorem s127_51 {S : Nat × (Nat → Int32)} {L : List (Option Value)} {st : List Value} {n : Nat} {Q : xQ} {μ : xM} {x y : Int} (hx : ib x) (hy : ib y) (kt : x ≠ y → x_V S 127 61 L (st) μ n Q) (kf : x = y → x_V S 127 54 L (st) μ n Q) : x_V S 127 51 L (.int (I y) :: .int (I x) :: st) μ n Q := v_icmp_ne d127_51 (by decide) hx hy kt kf
theorem s127_54 {S : Nat × (Nat → Int32)} {L : List (Option Value)} {st : List Value} {n : Nat} {Q : xQ} {μ : xM} {a : Nat} (hl : L[0]? = some (some (.ref a))) (h : x_V S 127 55 L (.ref a :: st) μ n Q) : x_V S 127 54 L (st) μ n Q := x_aload_n d127_54 hl h
theorem s127_54N {S : Nat × (Nat → Int32)} {L : List (Option Value)} {st : List Value} {n : Nat} {Q : xQ} {μ : xM} (hl : L[0]? = some (some .null)) (h : x_V S 127 55 L (.null :: st) μ n Q) : x_V S 127 54 L st μ n Q := x_aload_nN d127_54 hl h
theorem s127_55 {S : Nat × (Nat → Int32)} {L : List (Option Value)} {st : List Value} {n : Nat} {Q : xQ} {g : Nat → Nat → Int} {a : Nat} (hs : x_sh a = (9, 39)) (hp : x_pt a 26 = none) (ha : a ≠ x_out) (h : x_V S 127 58 L (.int (I (g a 26)) :: st) (x_vm g) n Q) : x_V S 127 55 L (.ref a :: st) (x_vm g) n Q := v_get (i := 26) cf9 d127_55 (by decide) w721 hs hp ha h
theorem s127_58 {S : Nat × (Nat → Int32)} {L : List (Option Value)} {st : List Value} {n : Nat} {Q : xQ} {μ : xM}  (h : x_V S 127 73 L (st) μ n Q) : x_V S 127 58 L (st) μ n Q := x_goto (tgt := 73) (by decide) d127_58 h
theorem s127_61 {S : Nat × (Nat → Int32)} {L : List (Option Value)} {st : List Value} {n : Nat} {Q : xQ} {μ : xM} {a : Nat} (hl : L[0]? = some (some (.ref a))) (h : x_V S 127 62 L (.ref a :: st) μ n Q) : x_V S 127 61 L (st) μ n Q := x_aload_n d127_61 hl h
theorem s127_61N {S : Nat × (Nat → Int32)} {L : List (Option Value)} {st : List Value} {n : Nat} {Q : xQ} {μ : xM} (hl : L[0]? = some (some .null)) (h : x_V S 127 62 L (.null :: st) μ n Q) : x_V S 127 61 L st μ n Q := x_aload_nN d127_61 hl h
theorem s127_62 {S : Nat × (Nat → Int32)} {L : List (Option Value)} {st : List Value} {n : Nat} {Q : xQ} {g : Nat → Nat → Int} {a : Nat} (hs : x_sh a = (9, 39)) (hp : x_pt a 19 = none) (ha : a ≠ x_out) (h : x_V S 127 65 L (.int (I (g a 19)) :: st) (x_vm g) n Q) : x_V S 127 62 L (.ref a :: st) (x_vm g) n Q := v_get (i := 19) cf9 d127_62 (by decide) w714 hs hp ha h
theorem s127_65 {S : Nat × (Nat → Int32)} {L : List (Option Value)} {st : List Value} {n : Nat} {Q : xQ} {μ : xM} {x : Int} (hx : ib x) (kt : x = 0 → x_V S 127 72 L (st) μ n Q) (kf : x ≠ 0 → x_V S 127 68 L (st) μ n Q) : x_V S 127 65 L (.int (I x) :: st) μ n Q := v_if_eq d127_65 (by decide) hx kt kf
theorem s127_68 {S : Nat × (Nat → Int32)} {L : List (Option Value)} {st : List Value} {n : Nat} {Q : xQ} {μ : xM}  (h : x_V S 127 69 L (.int (I 1) :: st) μ n Q) : x_V S 127 68 L (st) μ n Q := x_iconst (by decide +kernel) d127_68 h
theorem s127_69 {S : Nat × (Nat → Int32)} {L : List (Option Value)} {st : List Value} {n : Nat} {Q : xQ} {μ : xM}  (h : x_V S 127 73 L (st) μ n Q) : x_V S 127 69 L (st) μ n Q := x_goto (tgt := 73) (by decide) d127_69 h
theorem s127_72 {S : Nat × (Nat → Int32)} {L : List (Option Value)} {st : List Value} {n : Nat} {Q : xQ} {μ : xM}  (h : x_V S 127 73 L (.int (I 0) :: st) μ n Q) : x_V S 127 72 L (st) μ n Q := x_iconst (by decide +kernel) d127_72 h
theorem s127_73 {S : Nat × (Nat → Int32)} {L : List (Option Value)} {st : List Value} {n : Nat} {Q : xQ} {μ : xM} {x : Int32} (h : Q (.inl (some (.int x))) μ n) : x_V S 127 73 L (.int x :: []) μ n Q := x_ireturn d127_73 rfl rfl h
theorem s127_74 {S : Nat × (Nat → Int32)} {L : List (Option Value)} {st : List Value} {n : Nat} {Q : xQ} {μ : xM} {x : Int32} (hl : L[1]? = some (some (.int x))) (h : x_V S 127 75 L (.int x :: st) μ n Q) : x_V S 127 74 L (st) μ n Q := x_iload_n d127_74 hl h
theorem s127_75 {S : Nat × (Nat → Int32)} {L : List (Option Value)} {st : List Value} {n : Nat} {Q : xQ} {μ : xM}  (h : x_V S 127 76 L (.int (I 4) :: st) μ n Q) : x_V S 127 75 L (st) μ n Q := x_iconst (by decide +kernel) d127_75 h
theorem s127_76 {S : Nat × (Nat → Int32)} {L : List (Option Value)} {st : List Value} {n : Nat} {Q : xQ} {μ : xM} {x y : Int} (hx : ib x) (hy : ib y) (kt : x ≠ y → x_V S 127 86 L (st) μ n Q) (kf : x = y → x_V S 127 79 L (st) μ n Q) : x_V S 127 76 L (.int (I y) :: .int (I x) :: st) μ n Q := v_icmp_ne d127_76 (by decide) hx hy kt kf
theorem s127_79 {S : Nat × (Nat → Int32)} {L : List (Option Value)} {st : List Value} {n : Nat} {Q : xQ} {μ : xM} {a : Nat} (hl : L[0]? = some (some (.ref a))) (h : x_V S 127 80 L (.ref a :: st) μ n Q) : x_V S 127 79 L (st) μ n Q := x_aload_n d127_79 hl h
theorem s127_79N {S : Nat × (Nat → Int32)} {L : List (Option Value)} {st : List Value} {n : Nat} {Q : xQ} {μ : xM} (hl : L[0]? = some (some .null)) (h : x_V S 127 80 L (.null :: st) μ n Q) : x_V S 127 79 L st μ n Q := x_aload_nN d127_79 hl h
theorem s127_80 {S : Nat × (Nat → Int32)} {L : List (Option Value)} {st : List Value} {n : Nat} {Q : xQ} {g : Nat → Nat → Int} {a : Nat} (hs : x_sh a = (9, 39)) (hp : x_pt a 22 = none) (ha : a ≠ x_out) (h : x_V S 127 83 L (.int (I (g a 22)) :: st) (x_vm g) n Q) : x_V S 127 80 L (.ref a :: st) (x_vm g) n Q := v_get (i := 22) cf9 d127_80 (by decide) w717 hs hp ha h
theorem s127_83 {S : Nat × (Nat → Int32)} {L : List (Option Value)} {st : List Value} {n : Nat} {Q : xQ} {μ : xM}  (h : x_V S 127 102 L (st) μ n Q) : x_V S 127 83 L (st) μ n Q := x_goto (tgt := 102) (by decide) d127_83 h
theorem s127_86 {S : Nat × (Nat → Int32)} {L : List (Option Value)} {st : List Value} {n : Nat} {Q : xQ} {μ : xM} {x : Int32} (hl : L[1]? = some (some (.int x))) (h : x_V S 127 87 L (.int x :: st) μ n Q) : x_V S 127 86 L (st) μ n Q := x_iload_n d127_86 hl h
theorem s127_87 {S : Nat × (Nat → Int32)} {L : List (Option Value)} {st : List Value} {n : Nat} {Q : xQ} {μ : xM}  (h : x_V S 127 88 L (.int (I 5) :: st) μ n Q) : x_V S 127 87 L (st) μ n Q := x_iconst (by decide +kernel) d127_87 h
theorem s127_88 {S : Nat × (Nat → Int32)} {L : List (Option Value)} {st : List Value} {n : Nat} {Q : xQ} {μ : xM} {x y : Int} (hx : ib x) (hy : ib y) (kt : x ≠ y → x_V S 127 98 L (st) μ n Q) (kf : x = y → x_V S 127 91 L (st) μ n Q) : x_V S 127 88 L (.int (I y) :: .int (I x) :: st) μ n Q := v_icmp_ne d127_88 (by decide) hx hy kt kf
theorem s127_91 {S : Nat × (Nat → Int32)} {L : List (Option Value)} {st : List Value} {n : Nat} {Q : xQ} {μ : xM} {a : Nat} (hl : L[0]? = some (some (.ref a))) (h : x_V S 127 92 L (.ref a :: st) μ n Q) : x_V S 127 91 L (st) μ n Q := x_aload_n d127_91 hl h
theorem s127_91N {S : Nat × (Nat → Int32)} {L : List (Option Value)} {st : List Value} {n : Nat} {Q : xQ} {μ : xM} (hl : L[0]? = some (some .null)) (h : x_V S 127 92 L (.null :: st) μ n Q) : x_V S 127 91 L st μ n Q := x_aload_nN d127_91 hl h
theorem s127_92 {S : Nat × (Nat → Int32)} {L : List (Option Value)} {st : List Value} {n : Nat} {Q : xQ} {g : Nat → Nat → Int} {a : Nat} (hs : x_sh a = (9, 39)) (hp : x_pt a 29 = none) (ha : a ≠ x_out) (h : x_V S 127 95 L (.int (I (g a 29)) :: st) (x_vm g) n Q) : x_V S 127 92 L (.ref a :: st) (x_vm g) n Q := v_get (i := 29) cf9 d127_92 (by decide) w724 hs hp ha h
theorem s127_95 {S : Nat × (Nat → Int32)} {L : List (Option Value)} {st : List Value} {n : Nat} {Q : xQ} {μ : xM}  (h : x_V S 127 102 L (st) μ n Q) : x_V S 127 95 L (st) μ n Q := x_goto (tgt := 102) (by decide) d127_95 h
theorem s127_98 {S : Nat × (Nat → Int32)} {L : List (Option Value)} {st : List Value} {n : Nat} {Q : xQ} {μ : xM} {a : Nat} (hl : L[0]? = some (some (.ref a))) (h : x_V S 127 99 L (.ref a :: st) μ n Q) : x_V S 127 98 L (st) μ n Q := x_aload_n d127_98 hl h
theorem s127_98N {S : Nat × (Nat → Int32)} {L : List (Option Value)} {st : List Value} {n : Nat} {Q : xQ} {μ : xM} (hl : L[0]? = some (some .null)) (h : x_V S 127 99 L (.null :: st) μ n Q) : x_V S 127 98 L st μ n Q := x_aload_nN d127_98 hl h
theorem s127_99 {S : Nat × (Nat → Int32)} {L : List (Option Value)} {st : List Value} {n : Nat} {Q : xQ} {g : Nat → Nat → Int} {a : Nat} (hs : x_sh a = (9, 39)) (hp : x_pt a 36 = none) (ha : a ≠ x_out) (h : x_V S 127 102 L (.int (I (g a 36)) :: st) (x_vm g) n Q) : x_V S 127 99 L (.ref a :: st) (x_vm g) n Q := v_get (i := 36) cf9 d127_99 (by decide) w731 hs hp ha h
theorem s127_102 {S : Nat × (Nat → Int32)} {L : List (Option Value)} {st : List Value} {n : Nat} {Q : xQ} {μ : xM} {x : Int32} (h : Q (.inl (some (.int x))) μ n) : x_V S 127 102 L (.int x :: []) μ n Q := x_ireturn d127_102 rfl rfl h
theorem mC_128 : mC 128 = prog_12_method_46_code := rfl
theorem d128_0 : decode (mC 128) 0 = .ok (.aload_n 0, 1) := by rw [mC_128]; decide +kernel
theorem d128_1 : decode (mC 128) 1 = .ok (.iconst 0, 1) := by rw [mC_128]; decide +kernel
theorem d128_2 : decode (mC 128) 2 = .ok (.putfield 60, 3) := by rw [mC_128]; decide +kernel
theorem d128_5 : decode (mC 128) 5 = .ok (.iconst (-1), 1) := by rw [mC_128]; decide +kernel
theorem d128_6 : decode (mC 128) 6 = .ok (.istore_n 3, 1) := by rw [mC_128]; decide +kernel
theorem d128_7 : decode (mC 128) 7 = .ok (.iconst 0, 1) := by rw [mC_128]; decide +kernel
theorem d128_8 : decode (mC 128) 8 = .ok (.istore 4, 2) := by rw [mC_128]; decide +kernel
theorem d128_10 : decode (mC 128) 10 = .ok (.iload 4, 2) := by rw [mC_128]; decide +kernel
theorem d128_12 : decode (mC 128) 12 = .ok (.aload_n 0, 1) := by rw [mC_128]; decide +kernel
theorem d128_13 : decode (mC 128) 13 = .ok (.getfield 192, 3) := by rw [mC_128]; decide +kernel
theorem d128_16 : decode (mC 128) 16 = .ok (.if_icmp .ge 27, 3) := by rw [mC_128]; decide +kernel
theorem d128_19 : decode (mC 128) 19 = .ok (.aload_n 0, 1) := by rw [mC_128]; decide +kernel
theorem d128_20 : decode (mC 128) 20 = .ok (.getfield 42, 3) := by rw [mC_128]; decide +kernel
theorem d128_23 : decode (mC 128) 23 = .ok (.iload 4, 2) := by rw [mC_128]; decide +kernel
theorem d128_25 : decode (mC 128) 25 = .ok (.iaload, 1) := by rw [mC_128]; decide +kernel
theorem d128_26 : decode (mC 128) 26 = .ok (.iload_n 1, 1) := by rw [mC_128]; decide +kernel
theorem d128_27 : decode (mC 128) 27 = .ok (.if_icmp .ne 8, 3) := by rw [mC_128]; decide +kernel
theorem d128_30 : decode (mC 128) 30 = .ok (.iload 4, 2) := by rw [mC_128]; decide +kernel
theorem d128_32 : decode (mC 128) 32 = .ok (.goto 4, 3) := by rw [mC_128]; decide +kernel
theorem d128_35 : decode (mC 128) 35 = .ok (.iload_n 3, 1) := by rw [mC_128]; decide +kernel
theorem d128_36 : decode (mC 128) 36 = .ok (.istore_n 3, 1) := by rw [mC_128]; decide +kernel
theorem d128_37 : decode (mC 128) 37 = .ok (.iinc 4 1, 3) := by rw [mC_128]; decide +kernel
theorem d128_40 : decode (mC 128) 40 = .ok (.goto (-30), 3) := by rw [mC_128]; decide +kernel
theorem d128_43 : decode (mC 128) 43 = .ok (.iload_n 3, 1) := by rw [mC_128]; decide +kernel
theorem d128_44 : decode (mC 128) 44 = .ok (.ifCond .ge 9, 3) := by rw [mC_128]; decide +kernel
theorem d128_47 : decode (mC 128) 47 = .ok (.aload_n 0, 1) := by rw [mC_128]; decide +kernel
theorem d128_48 : decode (mC 128) 48 = .ok (.iconst 1, 1) := by rw [mC_128]; decide +kernel
theorem d128_49 : decode (mC 128) 49 = .ok (.invokevirtual 143, 3) := by rw [mC_128]; decide +kernel
theorem d128_52 : decode (mC 128) 52 = .ok (.ireturn, 1) := by rw [mC_128]; decide +kernel
theorem d128_53 : decode (mC 128) 53 = .ok (.iload_n 2, 1) := by rw [mC_128]; decide +kernel
theorem d128_54 : decode (mC 128) 54 = .ok (.iconst 0, 1) := by rw [mC_128]; decide +kernel
theorem d128_55 : decode (mC 128) 55 = .ok (.iconst 3, 1) := by rw [mC_128]; decide +kernel
theorem d128_56 : decode (mC 128) 56 = .ok (.invokestatic 139, 3) := by rw [mC_128]; decide +kernel
theorem d128_59 : decode (mC 128) 59 = .ok (.ifCond .ne 9, 3) := by rw [mC_128]; decide +kernel
theorem d128_62 : decode (mC 128) 62 = .ok (.aload_n 0, 1) := by rw [mC_128]; decide +kernel
theorem d128_63 : decode (mC 128) 63 = .ok (.iconst 2, 1) := by rw [mC_128]; decide +kernel
theorem d128_64 : decode (mC 128) 64 = .ok (.invokevirtual 143, 3) := by rw [mC_128]; decide +kernel
theorem d128_67 : decode (mC 128) 67 = .ok (.ireturn, 1) := by rw [mC_128]; decide +kernel
theorem d128_68 : decode (mC 128) 68 = .ok (.iload_n 2, 1) := by rw [mC_128]; decide +kernel
theorem d128_69 : decode (mC 128) 69 = .ok (.ifCond .ne 12, 3) := by rw [mC_128]; decide +kernel
theorem d128_72 : decode (mC 128) 72 = .ok (.aload_n 0, 1) := by rw [mC_128]; decide +kernel
theorem d128_73 : decode (mC 128) 73 = .ok (.getfield 45, 3) := by rw [mC_128]; decide +kernel
theorem d128_76 : decode (mC 128) 76 = .ok (.iload_n 3, 1) := by rw [mC_128]; decide +kernel
theorem d128_77 : decode (mC 128) 77 = .ok (.iaload, 1) := by rw [mC_128]; decide +kernel
theorem d128_78 : decode (mC 128) 78 = .ok (.goto 36, 3) := by rw [mC_128]; decide +kernel
theorem d128_81 : decode (mC 128) 81 = .ok (.iload_n 2, 1) := by rw [mC_128]; decide +kernel
theorem d128_82 : decode (mC 128) 82 = .ok (.iconst 1, 1) := by rw [mC_128]; decide +kernel
theorem d128_83 : decode (mC 128) 83 = .ok (.if_icmp .ne 12, 3) := by rw [mC_128]; decide +kernel
theorem d128_86 : decode (mC 128) 86 = .ok (.aload_n 0, 1) := by rw [mC_128]; decide +kernel
theorem d128_87 : decode (mC 128) 87 = .ok (.getfield 48, 3) := by rw [mC_128]; decide +kernel
theorem d128_90 : decode (mC 128) 90 = .ok (.iload_n 3, 1) := by rw [mC_128]; decide +kernel
theorem d128_91 : decode (mC 128) 91 = .ok (.iaload, 1) := by rw [mC_128]; decide +kernel
theorem d128_92 : decode (mC 128) 92 = .ok (.goto 22, 3) := by rw [mC_128]; decide +kernel
theorem d128_95 : decode (mC 128) 95 = .ok (.iload_n 2, 1) := by rw [mC_128]; decide +kernel
theorem d128_96 : decode (mC 128) 96 = .ok (.iconst 2, 1) := by rw [mC_128]; decide +kernel
theorem d128_97 : decode (mC 128) 97 = .ok (.if_icmp .ne 12, 3) := by rw [mC_128]; decide +kernel
theorem d128_100 : decode (mC 128) 100 = .ok (.aload_n 0, 1) := by rw [mC_128]; decide +kernel
theorem d128_101 : decode (mC 128) 101 = .ok (.getfield 51, 3) := by rw [mC_128]; decide +kernel
theorem d128_104 : decode (mC 128) 104 = .ok (.iload_n 3, 1) := by rw [mC_128]; decide +kernel
theorem d128_105 : decode (mC 128) 105 = .ok (.iaload, 1) := by rw [mC_128]; decide +kernel
theorem d128_106 : decode (mC 128) 106 = .ok (.goto 8, 3) := by rw [mC_128]; decide +kernel
theorem d128_109 : decode (mC 128) 109 = .ok (.aload_n 0, 1) := by rw [mC_128]; decide +kernel
theorem d128_110 : decode (mC 128) 110 = .ok (.iload_n 3, 1) := by rw [mC_128]; decide +kernel
theorem d128_111 : decode (mC 128) 111 = .ok (.invokevirtual 195, 3) := by rw [mC_128]; decide +kernel
theorem d128_114 : decode (mC 128) 114 = .ok (.ireturn, 1) := by rw [mC_128]; decide +kernel
theorem s128_0 {S : Nat × (Nat → Int32)} {L : List (Option Value)} {st : List Value} {n : Nat} {Q : xQ} {μ : xM} {a : Nat} (hl : L[0]? = some (some (.ref a))) (h : x_V S 128 1 L (.ref a :: st) μ n Q) : x_V S 128 0 L (st) μ n Q := x_aload_n d128_0 hl h
theorem s128_0N {S : Nat × (Nat → Int32)} {L : List (Option Value)} {st : List Value} {n : Nat} {Q : xQ} {μ : xM} (hl : L[0]? = some (some .null)) (h : x_V S 128 1 L (.null :: st) μ n Q) : x_V S 128 0 L st μ n Q := x_aload_nN d128_0 hl h
theorem s128_1 {S : Nat × (Nat → Int32)} {L : List (Option Value)} {st : List Value} {n : Nat} {Q : xQ} {μ : xM}  (h : x_V S 128 2 L (.int (I 0) :: st) μ n Q) : x_V S 128 1 L (st) μ n Q := x_iconst (by decide +kernel) d128_1 h
theorem s128_2 {S : Nat × (Nat → Int32)} {L : List (Option Value)} {st : List Value} {n : Nat} {Q : xQ} {g : Nat → Nat → Int} {a : Nat} {x : Int} (hs : x_sh a = (9, 39)) (hp : x_pt a 0 = none) (ha : a ≠ x_out) (h : x_V S 128 5 L (st) (x_vm (x_uf g a 0 x)) n Q) : x_V S 128 2 L (.int (I x) :: .ref a :: st) (x_vm g) n Q := v_put (i := 0) cf9 d128_2 (by decide) rfl w695 hs rfl hp ha h
theorem s128_5 {S : Nat × (Nat → Int32)} {L : List (Option Value)} {st : List Value} {n : Nat} {Q : xQ} {μ : xM}  (h : x_V S 128 6 L (.int (I (-1)) :: st) μ n Q) : x_V S 128 5 L (st) μ n Q := x_iconst (by decide +kernel) d128_5 h
theorem s128_6 {S : Nat × (Nat → Int32)} {L : List (Option Value)} {st : List Value} {n : Nat} {Q : xQ} {μ : xM} {x : Int32} (h : x_V S 128 7 (L.set 3 (some (.int x))) (st) μ n Q) : x_V S 128 6 L (.int x :: st) μ n Q := x_istore_n d128_6 (by decide) h
theorem s128_7 {S : Nat × (Nat → Int32)} {L : List (Option Value)} {st : List Value} {n : Nat} {Q : xQ} {μ : xM}  (h : x_V S 128 8 L (.int (I 0) :: st) μ n Q) : x_V S 128 7 L (st) μ n Q := x_iconst (by decide +kernel) d128_7 h
theorem s128_8 {S : Nat × (Nat → Int32)} {L : List (Option Value)} {st : List Value} {n : Nat} {Q : xQ} {μ : xM} {x : Int32} (h : x_V S 128 10 (L.set 4 (some (.int x))) (st) μ n Q) : x_V S 128 8 L (.int x :: st) μ n Q := x_istore d128_8 (by decide) h
theorem s128_10 {S : Nat × (Nat → Int32)} {L : List (Option Value)} {st : List Value} {n : Nat} {Q : xQ} {μ : xM} {x : Int32} (hl : L[4]? = some (some (.int x))) (h : x_V S 128 12 L (.int x :: st) μ n Q) : x_V S 128 10 L (st) μ n Q := x_iload d128_10 hl h
theorem s128_12 {S : Nat × (Nat → Int32)} {L : List (Option Value)} {st : List Value} {n : Nat} {Q : xQ} {μ : xM} {a : Nat} (hl : L[0]? = some (some (.ref a))) (h : x_V S 128 13 L (.ref a :: st) μ n Q) : x_V S 128 12 L (st) μ n Q := x_aload_n d128_12 hl h
theorem s128_12N {S : Nat × (Nat → Int32)} {L : List (Option Value)} {st : List Value} {n : Nat} {Q : xQ} {μ : xM} (hl : L[0]? = some (some .null)) (h : x_V S 128 13 L (.null :: st) μ n Q) : x_V S 128 12 L st μ n Q := x_aload_nN d128_12 hl h
theorem s128_13 {S : Nat × (Nat → Int32)} {L : List (Option Value)} {st : List Value} {n : Nat} {Q : xQ} {g : Nat → Nat → Int} {a : Nat} (hs : x_sh a = (9, 39)) (hp : x_pt a 29 = none) (ha : a ≠ x_out) (h : x_V S 128 16 L (.int (I (g a 29)) :: st) (x_vm g) n Q) : x_V S 128 13 L (.ref a :: st) (x_vm g) n Q := v_get (i := 29) cf9 d128_13 (by decide) w724 hs hp ha h
theorem s128_16 {S : Nat × (Nat → Int32)} {L : List (Option Value)} {st : List Value} {n : Nat} {Q : xQ} {μ : xM} {x y : Int} (hx : ib x) (hy : ib y) (kt : y ≤ x → x_V S 128 43 L (st) μ n Q) (kf : x < y → x_V S 128 19 L (st) μ n Q) : x_V S 128 16 L (.int (I y) :: .int (I x) :: st) μ n Q := v_icmp_ge d128_16 (by decide) hx hy kt kf
theorem s128_19 {S : Nat × (Nat → Int32)} {L : List (Option Value)} {st : List Value} {n : Nat} {Q : xQ} {μ : xM} {a : Nat} (hl : L[0]? = some (some (.ref a))) (h : x_V S 128 20 L (.ref a :: st) μ n Q) : x_V S 128 19 L (st) μ n Q := x_aload_n d128_19 hl h
theorem s128_19N {S : Nat × (Nat → Int32)} {L : List (Option Value)} {st : List Value} {n : Nat} {Q : xQ} {μ : xM} (hl : L[0]? = some (some .null)) (h : x_V S 128 20 L (.null :: st) μ n Q) : x_V S 128 19 L st μ n Q := x_aload_nN d128_19 hl h
theorem s128_20 {S : Nat × (Nat → Int32)} {L : List (Option Value)} {st : List Value} {n : Nat} {Q : xQ} {g : Nat → Nat → Int} {a : Nat} {v : Value} (hs : x_sh a = (9, 39)) (hp : x_pt a 30 = some v) (h : x_V S 128 23 L (v :: st) (x_vm g) n Q) : x_V S 128 20 L (.ref a :: st) (x_vm g) n Q := v_getp (i := 30) cf9 d128_20 (by decide) w725 hs hp h
theorem s128_23 {S : Nat × (Nat → Int32)} {L : List (Option Value)} {st : List Value} {n : Nat} {Q : xQ} {μ : xM} {x : Int32} (hl : L[4]? = some (some (.int x))) (h : x_V S 128 25 L (.int x :: st) μ n Q) : x_V S 128 23 L (st) μ n Q := x_iload d128_23 hl h
theorem s128_26 {S : Nat × (Nat → Int32)} {L : List (Option Value)} {st : List Value} {n : Nat} {Q : xQ} {μ : xM} {x : Int32} (hl : L[1]? = some (some (.int x))) (h : x_V S 128 27 L (.int x :: st) μ n Q) : x_V S 128 26 L (st) μ n Q := x_iload_n d128_26 hl h
theorem s128_27 {S : Nat × (Nat → Int32)} {L : List (Option Value)} {st : List Value} {n : Nat} {Q : xQ} {μ : xM} {x y : Int} (hx : ib x) (hy : ib y) (kt : x ≠ y → x_V S 128 35 L (st) μ n Q) (kf : x = y → x_V S 128 30 L (st) μ n Q) : x_V S 128 27 L (.int (I y) :: .int (I x) :: st) μ n Q := v_icmp_ne d128_27 (by decide) hx hy kt kf
theorem s128_30 {S : Nat × (Nat → Int32)} {L : List (Option Value)} {st : List Value} {n : Nat} {Q : xQ} {μ : xM} {x : Int32} (hl : L[4]? = some (some (.int x))) (h : x_V S 128 32 L (.int x :: st) μ n Q) : x_V S 128 30 L (st) μ n Q := x_iload d128_30 hl h
theorem s128_32 {S : Nat × (Nat → Int32)} {L : List (Option Value)} {st : List Value} {n : Nat} {Q : xQ} {μ : xM}  (h : x_V S 128 36 L (st) μ n Q) : x_V S 128 32 L (st) μ n Q := x_goto (tgt := 36) (by decide) d128_32 h
theorem s128_35 {S : Nat × (Nat → Int32)} {L : List (Option Value)} {st : List Value} {n : Nat} {Q : xQ} {μ : xM} {x : Int32} (hl : L[3]? = some (some (.int x))) (h : x_V S 128 36 L (.int x :: st) μ n Q) : x_V S 128 35 L (st) μ n Q := x_iload_n d128_35 hl h
theorem s128_36 {S : Nat × (Nat → Int32)} {L : List (Option Value)} {st : List Value} {n : Nat} {Q : xQ} {μ : xM} {x : Int32} (h : x_V S 128 37 (L.set 3 (some (.int x))) (st) μ n Q) : x_V S 128 36 L (.int x :: st) μ n Q := x_istore_n d128_36 (by decide) h
theorem s128_37 {S : Nat × (Nat → Int32)} {L : List (Option Value)} {st : List Value} {n : Nat} {Q : xQ} {μ : xM} {x : Int} (hl : L[4]? = some (some (.int (I x)))) (h : x_V S 128 40 (L.set 4 (some (.int (I (x + 1))))) (st) μ n Q) : x_V S 128 37 L (st) μ n Q := v_iinc d128_37 hl (by decide) h
theorem s128_40 {S : Nat × (Nat → Int32)} {L : List (Option Value)} {st : List Value} {n : Nat} {Q : xQ} {μ : xM}  (h : x_V S 128 10 L (st) μ n Q) : x_V S 128 40 L (st) μ n Q := x_goto (tgt := 10) (by decide) d128_40 h
theorem s128_43 {S : Nat × (Nat → Int32)} {L : List (Option Value)} {st : List Value} {n : Nat} {Q : xQ} {μ : xM} {x : Int32} (hl : L[3]? = some (some (.int x))) (h : x_V S 128 44 L (.int x :: st) μ n Q) : x_V S 128 43 L (st) μ n Q := x_iload_n d128_43 hl h
theorem s128_44 {S : Nat × (Nat → Int32)} {L : List (Option Value)} {st : List Value} {n : Nat} {Q : xQ} {μ : xM} {x : Int} (hx : ib x) (kt : 0 ≤ x → x_V S 128 53 L (st) μ n Q) (kf : x < 0 → x_V S 128 47 L (st) μ n Q) : x_V S 128 44 L (.int (I x) :: st) μ n Q := v_if_ge d128_44 (by decide) hx kt kf
theorem s128_47 {S : Nat × (Nat → Int32)} {L : List (Option Value)} {st : List Value} {n : Nat} {Q : xQ} {μ : xM} {a : Nat} (hl : L[0]? = some (some (.ref a))) (h : x_V S 128 48 L (.ref a :: st) μ n Q) : x_V S 128 47 L (st) μ n Q := x_aload_n d128_47 hl h
theorem s128_47N {S : Nat × (Nat → Int32)} {L : List (Option Value)} {st : List Value} {n : Nat} {Q : xQ} {μ : xM} (hl : L[0]? = some (some .null)) (h : x_V S 128 48 L (.null :: st) μ n Q) : x_V S 128 47 L st μ n Q := x_aload_nN d128_47 hl h
theorem s128_48 {S : Nat × (Nat → Int32)} {L : List (Option Value)} {st : List Value} {n : Nat} {Q : xQ} {μ : xM}  (h : x_V S 128 49 L (.int (I 1) :: st) μ n Q) : x_V S 128 48 L (st) μ n Q := x_iconst (by decide +kernel) d128_48 h
theorem s128_49 {S : Nat × (Nat → Int32)} {L : List (Option Value)} {st : List Value} {n : Nat} {Q : xQ} {μ : xM} {x0 : Int32} {a : Nat} (hs : x_sh a = (9, 39)) (hst : st.length ≤ 4) (h : x_V S 85 0 [some (.ref a), some (.int x0)] [] μ n (x_bk S 128 49 L st Q)) : x_V S 128 49 L (.int x0 :: .ref a :: st) μ n Q := x_callV (k' := 85) (as := [.int x0]) (na := 1) d128_49 ⟨w832, by decide +kernel, by decide, by decide, by decide, by decide, by decide⟩ cf9 w829 w831 wp24 (by decide +kernel) rfl hs (fun v hv => by
    simp only [List.mem_cons, List.not_mem_nil, or_false] at hv
    rcases hv with rfl <;> first | rfl | assumption) hst h
theorem s128_52 {S : Nat × (Nat → Int32)} {L : List (Option Value)} {st : List Value} {n : Nat} {Q : xQ} {μ : xM} {x : Int32} (h : Q (.inl (some (.int x))) μ n) : x_V S 128 52 L (.int x :: []) μ n Q := x_ireturn d128_52 rfl rfl h
theorem s128_53 {S : Nat × (Nat → Int32)} {L : List (Option Value)} {st : List Value} {n : Nat} {Q : xQ} {μ : xM} {x : Int32} (hl : L[2]? = some (some (.int x))) (h : x_V S 128 54 L (.int x :: st) μ n Q) : x_V S 128 53 L (st) μ n Q := x_iload_n d128_53 hl h
theorem s128_54 {S : Nat × (Nat → Int32)} {L : List (Option Value)} {st : List Value} {n : Nat} {Q : xQ} {μ : xM}  (h : x_V S 128 55 L (.int (I 0) :: st) μ n Q) : x_V S 128 54 L (st) μ n Q := x_iconst (by decide +kernel) d128_54 h
theorem s128_55 {S : Nat × (Nat → Int32)} {L : List (Option Value)} {st : List Value} {n : Nat} {Q : xQ} {μ : xM}  (h : x_V S 128 56 L (.int (I 3) :: st) μ n Q) : x_V S 128 55 L (st) μ n Q := x_iconst (by decide +kernel) d128_55 h
theorem s128_56 {S : Nat × (Nat → Int32)} {L : List (Option Value)} {st : List Value} {n : Nat} {Q : xQ} {μ : xM} {x0 : Int32} {x1 : Int32} {x2 : Int32} (hst : st.length ≤ 4) (h : x_V S 86 0 [some (.int x0), some (.int x1), some (.int x2)] [] μ n (x_bk S 128 56 L st Q)) : x_V S 128 56 L (.int x2 :: .int x1 :: .int x0 :: st) μ n Q := x_callS (k' := 86) (as := [.int x0, .int x1, .int x2]) (na := 3) d128_56 ⟨w828, by decide +kernel, by decide, by decide, by decide, by decide, by decide⟩ w826 w827 w10 (by decide +kernel) rfl (fun v hv => by
    simp only [List.mem_cons, List.not_mem_nil, or_false] at hv
    rcases hv with rfl | rfl | rfl <;> first | rfl | assumption) hst h
theorem s128_59 {S : Nat × (Nat → Int32)} {L : List (Option Value)} {st : List Value} {n : Nat} {Q : xQ} {μ : xM} {x : Int} (hx : ib x) (kt : x ≠ 0 → x_V S 128 68 L (st) μ n Q) (kf : x = 0 → x_V S 128 62 L (st) μ n Q) : x_V S 128 59 L (.int (I x) :: st) μ n Q := v_if_ne d128_59 (by decide) hx kt kf
theorem s128_62 {S : Nat × (Nat → Int32)} {L : List (Option Value)} {st : List Value} {n : Nat} {Q : xQ} {μ : xM} {a : Nat} (hl : L[0]? = some (some (.ref a))) (h : x_V S 128 63 L (.ref a :: st) μ n Q) : x_V S 128 62 L (st) μ n Q := x_aload_n d128_62 hl h
theorem s128_62N {S : Nat × (Nat → Int32)} {L : List (Option Value)} {st : List Value} {n : Nat} {Q : xQ} {μ : xM} (hl : L[0]? = some (some .null)) (h : x_V S 128 63 L (.null :: st) μ n Q) : x_V S 128 62 L st μ n Q := x_aload_nN d128_62 hl h
theorem s128_63 {S : Nat × (Nat → Int32)} {L : List (Option Value)} {st : List Value} {n : Nat} {Q : xQ} {μ : xM}  (h : x_V S 128 64 L (.int (I 2) :: st) μ n Q) : x_V S 128 63 L (st) μ n Q := x_iconst (by decide +kernel) d128_63 h
theorem s128_64 {S : Nat × (Nat → Int32)} {L : List (Option Value)} {st : List Value} {n : Nat} {Q : xQ} {μ : xM} {x0 : Int32} {a : Nat} (hs : x_sh a = (9, 39)) (hst : st.length ≤ 4) (h : x_V S 85 0 [some (.ref a), some (.int x0)] [] μ n (x_bk S 128 64 L st Q)) : x_V S 128 64 L (.int x0 :: .ref a :: st) μ n Q := x_callV (k' := 85) (as := [.int x0]) (na := 1) d128_64 ⟨w832, by decide +kernel, by decide, by decide, by decide, by decide, by decide⟩ cf9 w829 w831 wp24 (by decide +kernel) rfl hs (fun v hv => by
    simp only [List.mem_cons, List.not_mem_nil, or_false] at hv
    rcases hv with rfl <;> first | rfl | assumption) hst h
theorem s128_67 {S : Nat × (Nat → Int32)} {L : List (Option Value)} {st : List Value} {n : Nat} {Q : xQ} {μ : xM} {x : Int32} (h : Q (.inl (some (.int x))) μ n) : x_V S 128 67 L (.int x :: []) μ n Q := x_ireturn d128_67 rfl rfl h
theorem s128_68 {S : Nat × (Nat → Int32)} {L : List (Option Value)} {st : List Value} {n : Nat} {Q : xQ} {μ : xM} {x : Int32} (hl : L[2]? = some (some (.int x))) (h : x_V S 128 69 L (.int x :: st) μ n Q) : x_V S 128 68 L (st) μ n Q := x_iload_n d128_68 hl h
theorem s128_69 {S : Nat × (Nat → Int32)} {L : List (Option Value)} {st : List Value} {n : Nat} {Q : xQ} {μ : xM} {x : Int} (hx : ib x) (kt : x ≠ 0 → x_V S 128 81 L (st) μ n Q) (kf : x = 0 → x_V S 128 72 L (st) μ n Q) : x_V S 128 69 L (.int (I x) :: st) μ n Q := v_if_ne d128_69 (by decide) hx kt kf
theorem s128_72 {S : Nat × (Nat → Int32)} {L : List (Option Value)} {st : List Value} {n : Nat} {Q : xQ} {μ : xM} {a : Nat} (hl : L[0]? = some (some (.ref a))) (h : x_V S 128 73 L (.ref a :: st) μ n Q) : x_V S 128 72 L (st) μ n Q := x_aload_n d128_72 hl h
theorem s128_72N {S : Nat × (Nat → Int32)} {L : List (Option Value)} {st : List Value} {n : Nat} {Q : xQ} {μ : xM} (hl : L[0]? = some (some .null)) (h : x_V S 128 73 L (.null :: st) μ n Q) : x_V S 128 72 L st μ n Q := x_aload_nN d128_72 hl h
theorem s128_73 {S : Nat × (Nat → Int32)} {L : List (Option Value)} {st : List Value} {n : Nat} {Q : xQ} {g : Nat → Nat → Int} {a : Nat} {v : Value} (hs : x_sh a = (9, 39)) (hp : x_pt a 31 = some v) (h : x_V S 128 76 L (v :: st) (x_vm g) n Q) : x_V S 128 73 L (.ref a :: st) (x_vm g) n Q := v_getp (i := 31) cf9 d128_73 (by decide) w726 hs hp h
theorem s128_76 {S : Nat × (Nat → Int32)} {L : List (Option Value)} {st : List Value} {n : Nat} {Q : xQ} {μ : xM} {x : Int32} (hl : L[3]? = some (some (.int x))) (h : x_V S 128 77 L (.int x :: st) μ n Q) : x_V S 128 76 L (st) μ n Q := x_iload_n d128_76 hl h
theorem s128_78 {S : Nat × (Nat → Int32)} {L : List (Option Value)} {st : List Value} {n : Nat} {Q : xQ} {μ : xM}  (h : x_V S 128 114 L (st) μ n Q) : x_V S 128 78 L (st) μ n Q := x_goto (tgt := 114) (by decide) d128_78 h
theorem s128_81 {S : Nat × (Nat → Int32)} {L : List (Option Value)} {st : List Value} {n : Nat} {Q : xQ} {μ : xM} {x : Int32} (hl : L[2]? = some (some (.int x))) (h : x_V S 128 82 L (.int x :: st) μ n Q) : x_V S 128 81 L (st) μ n Q := x_iload_n d128_81 hl h
theorem s128_82 {S : Nat × (Nat → Int32)} {L : List (Option Value)} {st : List Value} {n : Nat} {Q : xQ} {μ : xM}  (h : x_V S 128 83 L (.int (I 1) :: st) μ n Q) : x_V S 128 82 L (st) μ n Q := x_iconst (by decide +kernel) d128_82 h
theorem s128_83 {S : Nat × (Nat → Int32)} {L : List (Option Value)} {st : List Value} {n : Nat} {Q : xQ} {μ : xM} {x y : Int} (hx : ib x) (hy : ib y) (kt : x ≠ y → x_V S 128 95 L (st) μ n Q) (kf : x = y → x_V S 128 86 L (st) μ n Q) : x_V S 128 83 L (.int (I y) :: .int (I x) :: st) μ n Q := v_icmp_ne d128_83 (by decide) hx hy kt kf
theorem s128_86 {S : Nat × (Nat → Int32)} {L : List (Option Value)} {st : List Value} {n : Nat} {Q : xQ} {μ : xM} {a : Nat} (hl : L[0]? = some (some (.ref a))) (h : x_V S 128 87 L (.ref a :: st) μ n Q) : x_V S 128 86 L (st) μ n Q := x_aload_n d128_86 hl h
theorem s128_86N {S : Nat × (Nat → Int32)} {L : List (Option Value)} {st : List Value} {n : Nat} {Q : xQ} {μ : xM} (hl : L[0]? = some (some .null)) (h : x_V S 128 87 L (.null :: st) μ n Q) : x_V S 128 86 L st μ n Q := x_aload_nN d128_86 hl h
theorem s128_87 {S : Nat × (Nat → Int32)} {L : List (Option Value)} {st : List Value} {n : Nat} {Q : xQ} {g : Nat → Nat → Int} {a : Nat} {v : Value} (hs : x_sh a = (9, 39)) (hp : x_pt a 32 = some v) (h : x_V S 128 90 L (v :: st) (x_vm g) n Q) : x_V S 128 87 L (.ref a :: st) (x_vm g) n Q := v_getp (i := 32) cf9 d128_87 (by decide) w727 hs hp h
theorem s128_90 {S : Nat × (Nat → Int32)} {L : List (Option Value)} {st : List Value} {n : Nat} {Q : xQ} {μ : xM} {x : Int32} (hl : L[3]? = some (some (.int x))) (h : x_V S 128 91 L (.int x :: st) μ n Q) : x_V S 128 90 L (st) μ n Q := x_iload_n d128_90 hl h
theorem s128_92 {S : Nat × (Nat → Int32)} {L : List (Option Value)} {st : List Value} {n : Nat} {Q : xQ} {μ : xM}  (h : x_V S 128 114 L (st) μ n Q) : x_V S 128 92 L (st) μ n Q := x_goto (tgt := 114) (by decide) d128_92 h
theorem s128_95 {S : Nat × (Nat → Int32)} {L : List (Option Value)} {st : List Value} {n : Nat} {Q : xQ} {μ : xM} {x : Int32} (hl : L[2]? = some (some (.int x))) (h : x_V S 128 96 L (.int x :: st) μ n Q) : x_V S 128 95 L (st) μ n Q := x_iload_n d128_95 hl h
theorem s128_96 {S : Nat × (Nat → Int32)} {L : List (Option Value)} {st : List Value} {n : Nat} {Q : xQ} {μ : xM}  (h : x_V S 128 97 L (.int (I 2) :: st) μ n Q) : x_V S 128 96 L (st) μ n Q := x_iconst (by decide +kernel) d128_96 h
theorem s128_97 {S : Nat × (Nat → Int32)} {L : List (Option Value)} {st : List Value} {n : Nat} {Q : xQ} {μ : xM} {x y : Int} (hx : ib x) (hy : ib y) (kt : x ≠ y → x_V S 128 109 L (st) μ n Q) (kf : x = y → x_V S 128 100 L (st) μ n Q) : x_V S 128 97 L (.int (I y) :: .int (I x) :: st) μ n Q := v_icmp_ne d128_97 (by decide) hx hy kt kf
theorem s128_100 {S : Nat × (Nat → Int32)} {L : List (Option Value)} {st : List Value} {n : Nat} {Q : xQ} {μ : xM} {a : Nat} (hl : L[0]? = some (some (.ref a))) (h : x_V S 128 101 L (.ref a :: st) μ n Q) : x_V S 128 100 L (st) μ n Q := x_aload_n d128_100 hl h
theorem s128_100N {S : Nat × (Nat → Int32)} {L : List (Option Value)} {st : List Value} {n : Nat} {Q : xQ} {μ : xM} (hl : L[0]? = some (some .null)) (h : x_V S 128 101 L (.null :: st) μ n Q) : x_V S 128 100 L st μ n Q := x_aload_nN d128_100 hl h
theorem s128_101 {S : Nat × (Nat → Int32)} {L : List (Option Value)} {st : List Value} {n : Nat} {Q : xQ} {g : Nat → Nat → Int} {a : Nat} {v : Value} (hs : x_sh a = (9, 39)) (hp : x_pt a 33 = some v) (h : x_V S 128 104 L (v :: st) (x_vm g) n Q) : x_V S 128 101 L (.ref a :: st) (x_vm g) n Q := v_getp (i := 33) cf9 d128_101 (by decide) w728 hs hp h
theorem s128_104 {S : Nat × (Nat → Int32)} {L : List (Option Value)} {st : List Value} {n : Nat} {Q : xQ} {μ : xM} {x : Int32} (hl : L[3]? = some (some (.int x))) (h : x_V S 128 105 L (.int x :: st) μ n Q) : x_V S 128 104 L (st) μ n Q := x_iload_n d128_104 hl h
theorem s128_106 {S : Nat × (Nat → Int32)} {L : List (Option Value)} {st : List Value} {n : Nat} {Q : xQ} {μ : xM}  (h : x_V S 128 114 L (st) μ n Q) : x_V S 128 106 L (st) μ n Q := x_goto (tgt := 114) (by decide) d128_106 h
theorem s128_109 {S : Nat × (Nat → Int32)} {L : List (Option Value)} {st : List Value} {n : Nat} {Q : xQ} {μ : xM} {a : Nat} (hl : L[0]? = some (some (.ref a))) (h : x_V S 128 110 L (.ref a :: st) μ n Q) : x_V S 128 109 L (st) μ n Q := x_aload_n d128_109 hl h
theorem s128_109N {S : Nat × (Nat → Int32)} {L : List (Option Value)} {st : List Value} {n : Nat} {Q : xQ} {μ : xM} (hl : L[0]? = some (some .null)) (h : x_V S 128 110 L (.null :: st) μ n Q) : x_V S 128 109 L st μ n Q := x_aload_nN d128_109 hl h
theorem s128_110 {S : Nat × (Nat → Int32)} {L : List (Option Value)} {st : List Value} {n : Nat} {Q : xQ} {μ : xM} {x : Int32} (hl : L[3]? = some (some (.int x))) (h : x_V S 128 111 L (.int x :: st) μ n Q) : x_V S 128 110 L (st) μ n Q := x_iload_n d128_110 hl h
theorem s128_111 {S : Nat × (Nat → Int32)} {L : List (Option Value)} {st : List Value} {n : Nat} {Q : xQ} {μ : xM} {x0 : Int32} {a : Nat} (hs : x_sh a = (9, 39)) (hst : st.length ≤ 4) (h : x_V S 113 0 [some (.ref a), some (.int x0)] [] μ n (x_bk S 128 111 L st Q)) : x_V S 128 111 L (.int x0 :: .ref a :: st) μ n Q := x_callV (k' := 113) (as := [.int x0]) (na := 1) d128_111 ⟨w948, by decide +kernel, by decide, by decide, by decide, by decide, by decide⟩ cf9 w945 w947 wp47 (by decide +kernel) rfl hs (fun v hv => by
    simp only [List.mem_cons, List.not_mem_nil, or_false] at hv
    rcases hv with rfl <;> first | rfl | assumption) hst h
theorem s128_114 {S : Nat × (Nat → Int32)} {L : List (Option Value)} {st : List Value} {n : Nat} {Q : xQ} {μ : xM} {x : Int32} (h : Q (.inl (some (.int x))) μ n) : x_V S 128 114 L (.int x :: []) μ n Q := x_ireturn d128_114 rfl rfl h
