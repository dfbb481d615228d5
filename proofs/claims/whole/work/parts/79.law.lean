/-! 79.law: the other calls of the law; its loop. -/
section LW
variable {S : Nat × (Nat → Int32)} {μ : xM} {g : Nat → Nat → Int} {n : Nat} {Q : xQ} {y : yS} {B : Int} {bs : List Int} {T : Nat}
theorem e0 {p1 p2 p3 p4 p5 p6 : Int} (sv1 : S.2 (7 * (T : Int) + 1).toNat = I p1) (pb1 : ib p1) (sv2 : S.2 (7 * (T : Int) + 2).toNat = I p2) (pb2 : ib p2) (sv3 : S.2 (7 * (T : Int) + 3).toNat = I p3) (pb3 : ib p3) (sv4 : S.2 (7 * (T : Int) + 4).toNat = I p4) (pb4 : ib p4) (sv5 : S.2 (7 * (T : Int) + 5).toNat = I p5) (pb5 : ib p5) (sv6 : S.2 (7 * (T : Int) + 6).toNat = I p6) (pb6 : ib p6) (hJ : lJx T g y bs n) (hT : 7 * T + 7 ≤ S.1) (hS1 : S.1 ≤ 3584) (next : lNx S T Q) {w5 w6 : Option Value} : x_V S 138 104 [some (.ref 1), some (.ref 2), some (.ref 100), some (.ref 115), some (.int (I (7 * (T : Int)))), w5, w6] [] (x_vm g) n Q := by
  obtain ⟨hZ, hS, hI, hn1, hn2⟩ := hJ
  have hn : 116 ≤ n ∧ n < 640 := ⟨hn1, by omega⟩
  have hIc := hI.clr
  have hlen := hI.2.1.1
  have fin : ∀ (g2 : Nat → Nat → Int) (y2 : yS) (bs2 : List Int) (n2 : Nat) (k b : Int), zC g2 y2 bs2 → sC g2 y2 bs2 → yI (1 + 3 * ((T + 1 : Nat) : Int)) 2000 ((T + 1 : Nat) : Int) ((T + 1 : Nat) : Int) ((T + 1 : Nat) : Int) ((T + 1 : Nat) : Int) y2 → 116 ≤ n2 ∧ n2 ≤ 116 + (T + 1) → g2 100 0 = k → 0 ≤ k ∧ k ≤ 2 → (k = 0 → g2 115 0 = b) → x_V S 138 207 [some (.ref 1), some (.ref 2), some (.ref 100), some (.ref 115), some (.int (I (7 * (T : Int)))), some (.int (I k)), some (.int (I b))] [] (x_vm g2) n2 Q := fun g2 y2 bs2 n2 k b q1 q2 q3 q4 q5 q6 q7 => tl207 q5 q6 q7 (next g2 y2 bs2 n2 _ _ ⟨q1, q2, q3, q4.1, q4.2⟩)
  have up0 : yI (1 + 3 * ((T + 1 : Nat) : Int)) 2000 ((T + 1 : Nat) : Int) ((T + 1 : Nat) : Int) ((T + 1 : Nat) : Int) ((T + 1 : Nat) : Int) y := hI.up (by omega) (by omega) (by omega) (by omega) (by omega) (by omega)
  have upc : yI (1 + 3 * ((T + 1 : Nat) : Int)) 2000 ((T + 1 : Nat) : Int) ((T + 1 : Nat) : Int) ((T + 1 : Nat) : Int) ((T + 1 : Nat) : Int) (yclr y) := hIc.up (by omega) (by omega) (by omega) (by omega) (by omega) (by omega)
  obtain ⟨x31, x32⟩ := id pb3
  by_cases h3 : p3 = 0
  · have hd : (0 : Int) = 0 ∨ (0 : Int) = 1 := by omega
    refine s138_104 rfl ?_
    refine s138_105 rfl ?_
    refine s138_106 rfl ?_
    refine s138_108 ?_
    refine s138_109 ?_
    refine v_sald d138_110 (by omega) (by omega) (by omega) ?_
    rw [sv1]
    refine s138_111 rfl ?_
    refine s138_112 rfl ?_
    refine s138_114 ?_
    refine s138_115 ?_
    refine v_sald d138_116 (by omega) (by omega) (by omega) ?_
    rw [sv2]
    refine s138_117 rfl ?_
    refine s138_118 rfl ?_
    refine s138_120 ?_
    refine s138_121 ?_
    refine v_sald d138_122 (by omega) (by omega) (by omega) ?_
    rw [sv3]
    refine s138_123 ⟨by omega, by omega⟩ (fun h123 => ?_) (fun h123 => ?_)
    · refine s138_130 ?_
      refine s138_131 rfl ?_
      refine s138_132 rfl ?_
      refine s138_134 ?_
      refine s138_135 ?_
      refine v_sald d138_136 (by omega) (by omega) (by omega) ?_
      rw [sv4]
      refine s138_137 rfl ?_
      refine s138_138 rfl ?_
      refine s138_140 ?_
      refine s138_141 ?_
      refine v_sald d138_142 (by omega) (by omega) (by omega) ?_
      rw [sv5]
      refine s138_143 rfl ?_
      refine s138_144 rfl ?_
      refine s138_146 ?_
      refine s138_148 ?_
      refine v_sald d138_149 (by omega) (by omega) (by omega) ?_
      rw [sv6]
      refine s138_150 rfl ?_
      refine s138_151 rfl rfl (by simp) ?_
      refine c129 hZ pb1 pb2 pb4 pb5 pb6 hd hn (fun q => ?_) (fun q g1 z1 f1 => ?_)
      · refine ⟨_, rfl, ?_⟩
        refine s138_154 ?_
        refine s138_156 rfl ?_
        refine s138_157 rfl ?_
        refine s138_158 rfl ?_
        refine s138_160 ?_
        refine s138_161 ?_
        refine v_sald d138_162 (by omega) (by omega) (by omega) ?_
        rw [sv1]
        refine s138_163 rfl ?_
        refine s138_164 rfl ?_
        refine s138_166 ?_
        refine s138_167 ?_
        refine v_sald d138_168 (by omega) (by omega) (by omega) ?_
        rw [sv2]
        refine s138_169 rfl ?_
        refine s138_170 rfl ?_
        refine s138_172 ?_
        refine s138_173 ?_
        refine v_sald d138_174 (by omega) (by omega) (by omega) ?_
        rw [sv3]
        refine s138_175 ⟨by omega, by omega⟩ (fun h175 => ?_) (fun h175 => ?_)
        · refine s138_182 ?_
          refine s138_183 rfl ?_
          refine s138_184 rfl ?_
          refine s138_186 ?_
          refine s138_187 ?_
          refine v_sald d138_188 (by omega) (by omega) (by omega) ?_
          rw [sv4]
          refine s138_189 rfl ?_
          refine s138_190 rfl ?_
          refine s138_192 ?_
          refine s138_193 ?_
          refine v_sald d138_194 (by omega) (by omega) (by omega) ?_
          rw [sv5]
          refine s138_195 rfl ?_
          refine s138_196 rfl ?_
          refine s138_198 ?_
          refine s138_200 ?_
          refine v_sald d138_201 (by omega) (by omega) (by omega) ?_
          rw [sv6]
          refine s138_202 (by first | assumption | rfl) (by simp) ?_
          refine c103 hS (by omega) pb1 pb2 pb4 pb5 pb6 hd (fun r g2 z2 f2 t2 => ?_) (fun r g2 z2 f2 t2 => ?_)
          · refine ⟨_, rfl, ?_⟩
            refine s138_205 ?_
            exact fin _ _ _ _ _ _ (f2.z hZ) z2 up0 ⟨by omega, by omega⟩ t2 (by omega) (fun q => absurd q (by omega))
          · exact absurd r q
        · exfalso; omega
      · refine ⟨_, rfl, ?_⟩
        refine s138_154 ?_
        refine s138_156 rfl ?_
        refine s138_157 rfl ?_
        refine s138_158 rfl ?_
        refine s138_160 ?_
        refine s138_161 ?_
        refine v_sald d138_162 (by omega) (by omega) (by omega) ?_
        rw [sv1]
        refine s138_163 rfl ?_
        refine s138_164 rfl ?_
        refine s138_166 ?_
        refine s138_167 ?_
        refine v_sald d138_168 (by omega) (by omega) (by omega) ?_
        rw [sv2]
        refine s138_169 rfl ?_
        refine s138_170 rfl ?_
        refine s138_172 ?_
        refine s138_173 ?_
        refine v_sald d138_174 (by omega) (by omega) (by omega) ?_
        rw [sv3]
        refine s138_175 ⟨by omega, by omega⟩ (fun h175 => ?_) (fun h175 => ?_)
        · refine s138_182 ?_
          refine s138_183 rfl ?_
          refine s138_184 rfl ?_
          refine s138_186 ?_
          refine s138_187 ?_
          refine v_sald d138_188 (by omega) (by omega) (by omega) ?_
          rw [sv4]
          refine s138_189 rfl ?_
          refine s138_190 rfl ?_
          refine s138_192 ?_
          refine s138_193 ?_
          refine v_sald d138_194 (by omega) (by omega) (by omega) ?_
          rw [sv5]
          refine s138_195 rfl ?_
          refine s138_196 rfl ?_
          refine s138_198 ?_
          refine s138_200 ?_
          refine v_sald d138_201 (by omega) (by omega) (by omega) ?_
          rw [sv6]
          refine s138_202 (by first | assumption | rfl) (by simp) ?_
          refine c103 (zF.o hS f1) (by omega) pb1 pb2 pb4 pb5 pb6 hd (fun r g2 z2 f2 t2 => ?_) (fun r g2 z2 f2 t2 => ?_)
          · exact absurd q r
          · refine ⟨_, rfl, ?_⟩
            refine s138_205 ?_
            exact fin _ _ _ _ _ _ (f2.z z1.o) z2 upc ⟨by omega, by omega⟩ t2 (by omega) (fun _ => f2.v)
        · exfalso; omega
    · exfalso; omega
  · have hd : (1 : Int) = 0 ∨ (1 : Int) = 1 := by omega
    refine s138_104 rfl ?_
    refine s138_105 rfl ?_
    refine s138_106 rfl ?_
    refine s138_108 ?_
    refine s138_109 ?_
    refine v_sald d138_110 (by omega) (by omega) (by omega) ?_
    rw [sv1]
    refine s138_111 rfl ?_
    refine s138_112 rfl ?_
    refine s138_114 ?_
    refine s138_115 ?_
    refine v_sald d138_116 (by omega) (by omega) (by omega) ?_
    rw [sv2]
    refine s138_117 rfl ?_
    refine s138_118 rfl ?_
    refine s138_120 ?_
    refine s138_121 ?_
    refine v_sald d138_122 (by omega) (by omega) (by omega) ?_
    rw [sv3]
    refine s138_123 ⟨by omega, by omega⟩ (fun h123 => ?_) (fun h123 => ?_)
    · exact absurd (by assumption) h3
    · refine s138_126 ?_
      refine s138_127 ?_
      refine s138_131 rfl ?_
      refine s138_132 rfl ?_
      refine s138_134 ?_
      refine s138_135 ?_
      refine v_sald d138_136 (by omega) (by omega) (by omega) ?_
      rw [sv4]
      refine s138_137 rfl ?_
      refine s138_138 rfl ?_
      refine s138_140 ?_
      refine s138_141 ?_
      refine v_sald d138_142 (by omega) (by omega) (by omega) ?_
      rw [sv5]
      refine s138_143 rfl ?_
      refine s138_144 rfl ?_
      refine s138_146 ?_
      refine s138_148 ?_
      refine v_sald d138_149 (by omega) (by omega) (by omega) ?_
      rw [sv6]
      refine s138_150 rfl ?_
      refine s138_151 rfl rfl (by simp) ?_
      refine c129 hZ pb1 pb2 pb4 pb5 pb6 hd hn (fun q => ?_) (fun q g1 z1 f1 => ?_)
      · refine ⟨_, rfl, ?_⟩
        refine s138_154 ?_
        refine s138_156 rfl ?_
        refine s138_157 rfl ?_
        refine s138_158 rfl ?_
        refine s138_160 ?_
        refine s138_161 ?_
        refine v_sald d138_162 (by omega) (by omega) (by omega) ?_
        rw [sv1]
        refine s138_163 rfl ?_
        refine s138_164 rfl ?_
        refine s138_166 ?_
        refine s138_167 ?_
        refine v_sald d138_168 (by omega) (by omega) (by omega) ?_
        rw [sv2]
        refine s138_169 rfl ?_
        refine s138_170 rfl ?_
        refine s138_172 ?_
        refine s138_173 ?_
        refine v_sald d138_174 (by omega) (by omega) (by omega) ?_
        rw [sv3]
        refine s138_175 ⟨by omega, by omega⟩ (fun h175 => ?_) (fun h175 => ?_)
        · exact absurd (by assumption) h3
        · refine s138_178 ?_
          refine s138_179 ?_
          refine s138_183 rfl ?_
          refine s138_184 rfl ?_
          refine s138_186 ?_
          refine s138_187 ?_
          refine v_sald d138_188 (by omega) (by omega) (by omega) ?_
          rw [sv4]
          refine s138_189 rfl ?_
          refine s138_190 rfl ?_
          refine s138_192 ?_
          refine s138_193 ?_
          refine v_sald d138_194 (by omega) (by omega) (by omega) ?_
          rw [sv5]
          refine s138_195 rfl ?_
          refine s138_196 rfl ?_
          refine s138_198 ?_
          refine s138_200 ?_
          refine v_sald d138_201 (by omega) (by omega) (by omega) ?_
          rw [sv6]
          refine s138_202 (by first | assumption | rfl) (by simp) ?_
          refine c103 hS (by omega) pb1 pb2 pb4 pb5 pb6 hd (fun r g2 z2 f2 t2 => ?_) (fun r g2 z2 f2 t2 => ?_)
          · refine ⟨_, rfl, ?_⟩
            refine s138_205 ?_
            exact fin _ _ _ _ _ _ (f2.z hZ) z2 up0 ⟨by omega, by omega⟩ t2 (by omega) (fun q => absurd q (by omega))
          · exact absurd r q
      · refine ⟨_, rfl, ?_⟩
        refine s138_154 ?_
        refine s138_156 rfl ?_
        refine s138_157 rfl ?_
        refine s138_158 rfl ?_
        refine s138_160 ?_
        refine s138_161 ?_
        refine v_sald d138_162 (by omega) (by omega) (by omega) ?_
        rw [sv1]
        refine s138_163 rfl ?_
        refine s138_164 rfl ?_
        refine s138_166 ?_
        refine s138_167 ?_
        refine v_sald d138_168 (by omega) (by omega) (by omega) ?_
        rw [sv2]
        refine s138_169 rfl ?_
        refine s138_170 rfl ?_
        refine s138_172 ?_
        refine s138_173 ?_
        refine v_sald d138_174 (by omega) (by omega) (by omega) ?_
        rw [sv3]
        refine s138_175 ⟨by omega, by omega⟩ (fun h175 => ?_) (fun h175 => ?_)
        · exact absurd (by assumption) h3
        · refine s138_178 ?_
          refine s138_179 ?_
          refine s138_183 rfl ?_
          refine s138_184 rfl ?_
          refine s138_186 ?_
          refine s138_187 ?_
          refine v_sald d138_188 (by omega) (by omega) (by omega) ?_
          rw [sv4]
          refine s138_189 rfl ?_
          refine s138_190 rfl ?_
          refine s138_192 ?_
          refine s138_193 ?_
          refine v_sald d138_194 (by omega) (by omega) (by omega) ?_
          rw [sv5]
          refine s138_195 rfl ?_
          refine s138_196 rfl ?_
          refine s138_198 ?_
          refine s138_200 ?_
          refine v_sald d138_201 (by omega) (by omega) (by omega) ?_
          rw [sv6]
          refine s138_202 (by first | assumption | rfl) (by simp) ?_
          refine c103 (zF.o hS f1) (by omega) pb1 pb2 pb4 pb5 pb6 hd (fun r g2 z2 f2 t2 => ?_) (fun r g2 z2 f2 t2 => ?_)
          · exact absurd q r
          · refine ⟨_, rfl, ?_⟩
            refine s138_205 ?_
            exact fin _ _ _ _ _ _ (f2.z z1.o) z2 upc ⟨by omega, by omega⟩ t2 (by omega) (fun _ => f2.v)
theorem e4 (hJ : lJx T g y bs n) (hT : 7 * T + 7 ≤ S.1) (hS1 : S.1 ≤ 3584) (next : lNx S T Q) {w5 w6 : Option Value} : x_V S 138 406 [some (.ref 1), some (.ref 2), some (.ref 100), some (.ref 115), some (.int (I (7 * (T : Int)))), w5, w6] [] (x_vm g) n Q := by
  obtain ⟨hZ, hS, hI, hn1, hn2⟩ := hJ
  have hn : 116 ≤ n ∧ n < 640 := ⟨hn1, by omega⟩
  have hIc := hI.clr
  have hlen := hI.2.1.1
  have hB := hIc.B (by omega) (by omega) (by omega) (by omega)
  have hP := hIc.rP (by omega) (by omega)
  have hIt := hIc.tick (by omega) (by omega)
  have h7 := hIt.1.2.2.2.2.2.2.1
  have i4 := hI.1.2.1
  have i7 := hI.1.2.2.2.2.2.2.1
  have i5 := hI.1.2.2.1
  have i35 := hI.1.2.2.2.1
  refine s138_406 rfl ?_
  refine s138_407 (by first | assumption | rfl) (by simp) ?_
  refine c74 hZ hB (by omega) (fun g1 z1 f1 => ?_)
  refine ⟨_, rfl, ?_⟩
  refine s138_410 rfl ?_
  refine s138_411 (by first | assumption | rfl) (by simp) ?_
  refine c121 (hS.lo (fun a i q1 q2 => f1 a i q1)) hP (by omega) hB (by omega) (by omega) (by omega) (fun g2 z2 f2 => ?_)
  refine ⟨_, rfl, ?_⟩
  refine s138_414 ⟨by omega, by omega⟩ ⟨by omega, by omega⟩ (fun h414 => ?_) (fun h414 => ?_)
  · exact next _ _ _ _ _ _ ⟨f2.z z1, z2, hIt.up (by omega) (by omega) (by omega) (by omega) (by omega) (by omega), hn1, by omega⟩
  · refine s138_417 ?_
    refine s138_418 (st := []) (by omega) ?_
    exact absurd rfl h414
theorem e5 (hJ : lJx T g y bs n) (hT : 7 * T + 7 ≤ S.1) (hS1 : S.1 ≤ 3584) (next : lNx S T Q) {w5 w6 : Option Value} : x_V S 138 419 [some (.ref 1), some (.ref 2), some (.ref 100), some (.ref 115), some (.int (I (7 * (T : Int)))), w5, w6] [] (x_vm g) n Q := by
  obtain ⟨hZ, hS, hI, hn1, hn2⟩ := hJ
  have hn : 116 ≤ n ∧ n < 640 := ⟨hn1, by omega⟩
  have hIc := hI.clr
  have hlen := hI.2.1.1
  have h6 := hI.1.2.2.2.2.1
  refine s138_419 rfl ?_
  refine s138_420 (by first | assumption | rfl) (by simp) ?_
  refine c75 hZ h6 (fun g1 z1 f1 => ?_)
  refine ⟨_, rfl, ?_⟩
  refine s138_423 rfl ?_
  refine s138_424 (by first | assumption | rfl) (by simp) ?_
  refine c122 (hS.lo (fun a i q1 q2 => f1 a i q1)) h6 (fun g2 z2 f2 => ?_)
  refine ⟨_, rfl, ?_⟩
  refine s138_427 ⟨by omega, by omega⟩ ⟨by omega, by omega⟩ (fun h427 => ?_) (fun h427 => ?_)
  · exact next _ _ _ _ _ _ ⟨f2.z z1, z2, hIc.leave.up (by omega) (by omega) (by omega) (by omega) (by omega) (by omega), hn1, by omega⟩
  · refine s138_430 ?_
    refine s138_431 (st := []) (by omega) ?_
    exact absurd rfl h427
theorem e7 (hJ : lJx T g y bs n) (hT : 7 * T + 7 ≤ S.1) (hS1 : S.1 ≤ 3584) (next : lNx S T Q) {w5 w6 : Option Value} : x_V S 138 500 [some (.ref 1), some (.ref 2), some (.ref 100), some (.ref 115), some (.int (I (7 * (T : Int)))), w5, w6] [] (x_vm g) n Q := by
  obtain ⟨hZ, hS, hI, hn1, hn2⟩ := hJ
  have hn : 116 ≤ n ∧ n < 640 := ⟨hn1, by omega⟩
  have hIc := hI.clr
  have hlen := hI.2.1.1
  refine s138_500 rfl ?_
  refine s138_501 (by first | assumption | rfl) (by simp) ?_
  refine c77 hZ ?_
  refine ⟨_, rfl, ?_⟩
  refine s138_504 rfl ?_
  refine s138_505 (by first | assumption | rfl) (by simp) ?_
  refine c124 hS (fun g2 z2 f2 => ?_)
  refine ⟨_, rfl, ?_⟩
  refine s138_508 ⟨by omega, by omega⟩ ⟨by omega, by omega⟩ (fun h508 => ?_) (fun h508 => ?_)
  · exact next _ _ _ _ _ _ ⟨f2.z hZ, z2, hI.up (by omega) (by omega) (by omega) (by omega) (by omega) (by omega), hn1, by omega⟩
  · refine s138_511 ?_
    refine s138_512 (st := []) (by omega) ?_
    exact absurd rfl h508
theorem and15 (x : Int32) : 0 ≤ (x &&& I 15).toInt ∧ (x &&& I 15).toInt ≤ 15 := by
  have e : (x &&& I 15).toInt = (x.toBitVec &&& (15#32)).toInt := rfl
  have h : (x.toBitVec &&& (15#32)).toNat ≤ 15 := by
    rw [BitVec.toNat_and]
    exact Nat.and_le_right
  have h2 := BitVec.toInt_eq_toNat_of_lt (x := x.toBitVec &&& (15#32)) (by omega)
  rw [e, h2]
  omega
theorem svl {j : Nat} {z : Int} (hz : z = 7 * (T : Int) + j) : S.2 z.toNat = I (S.2 (7 * T + j)).toInt := by
  rw [show z.toNat = 7 * T + j by omega]
  exact (I_of _).symm
theorem lbody (hJ : lJx T g y bs n) (hT : 7 * T + 7 ≤ S.1) (hS1 : S.1 ≤ 3584) (next : lNx S T Q) {w5 w6 : Option Value} : x_V S 138 33 [some (.ref 1), some (.ref 2), some (.ref 100), some (.ref 115), some (.int (I (7 * (T : Int)))), w5, w6] [] (x_vm g) n Q := by
  refine s138_33 rfl ?_
  refine s138_34 rfl ?_
  refine v_sald d138_36 (by omega) (by omega) (by omega) ?_
  refine s138_37 ?_
  refine s138_39 ?_
  have hv := and15 (S.2 (7 * (T : Int)).toNat)
  generalize S.2 (7 * (T : Int)).toNat &&& I 15 = v at hv
  by_cases c12 : 11 < v.toInt
  · exact x_tableOut (tgt := 761) (Or.inr c12) rfl d138_40 (next _ _ _ _ _ _ hJ.stay)
  rcases (show v.toInt = 0 ∨ v.toInt = 1 ∨ v.toInt = 2 ∨ v.toInt = 3 ∨ v.toInt = 4 ∨ v.toInt = 5 ∨ v.toInt = 6 ∨ v.toInt = 7 ∨ v.toInt = 8 ∨ v.toInt = 9 ∨ v.toInt = 10 ∨ v.toInt = 11 by omega) with c | c | c | c | c | c | c | c | c | c | c | c
  · refine x_tableIn (tgt := 104) (off := 64) (by omega) (by omega) (by rw [c]; rfl) rfl d138_40 ?_
    exact e0 (svl (j := 1) rfl) (ib_of _) (svl (j := 2) rfl) (ib_of _) (svl (j := 3) rfl) (ib_of _) (svl (j := 4) rfl) (ib_of _) (svl (j := 5) rfl) (ib_of _) (svl (j := 6) rfl) (ib_of _) hJ hT hS1 next
  · refine x_tableIn (tgt := 238) (off := 198) (by omega) (by omega) (by rw [c]; rfl) rfl d138_40 ?_
    exact e1 (svl (j := 1) rfl) (ib_of _) (svl (j := 2) rfl) (ib_of _) hJ hT hS1 next
  · refine x_tableIn (tgt := 306) (off := 266) (by omega) (by omega) (by rw [c]; rfl) rfl d138_40 ?_
    exact e2 (svl (j := 1) rfl) (ib_of _) hJ hT hS1 next
  · refine x_tableIn (tgt := 362) (off := 322) (by omega) (by omega) (by rw [c]; rfl) rfl d138_40 ?_
    exact e3 hJ hT hS1 next
  · refine x_tableIn (tgt := 406) (off := 366) (by omega) (by omega) (by rw [c]; rfl) rfl d138_40 ?_
    exact e4 hJ hT hS1 next
  · refine x_tableIn (tgt := 419) (off := 379) (by omega) (by omega) (by rw [c]; rfl) rfl d138_40 ?_
    exact e5 hJ hT hS1 next
  · refine x_tableIn (tgt := 432) (off := 392) (by omega) (by omega) (by rw [c]; rfl) rfl d138_40 ?_
    exact e6 (svl (j := 1) rfl) (ib_of _) (svl (j := 2) rfl) (ib_of _) hJ hT hS1 next
  · refine x_tableIn (tgt := 500) (off := 460) (by omega) (by omega) (by rw [c]; rfl) rfl d138_40 ?_
    exact e7 hJ hT hS1 next
  · refine x_tableIn (tgt := 513) (off := 473) (by omega) (by omega) (by rw [c]; rfl) rfl d138_40 ?_
    exact e8 (svl (j := 1) rfl) (ib_of _) hJ hT hS1 next
  · refine x_tableIn (tgt := 569) (off := 529) (by omega) (by omega) (by rw [c]; rfl) rfl d138_40 ?_
    exact e9 (svl (j := 1) rfl) (ib_of _) (svl (j := 2) rfl) (ib_of _) hJ hT hS1 next
  · refine x_tableIn (tgt := 637) (off := 597) (by omega) (by omega) (by rw [c]; rfl) rfl d138_40 ?_
    exact e10 (svl (j := 1) rfl) (ib_of _) hJ hT hS1 next
  · refine x_tableIn (tgt := 693) (off := 653) (by omega) (by omega) (by rw [c]; rfl) rfl d138_40 ?_
    exact e11 (svl (j := 1) rfl) (ib_of _) (svl (j := 2) rfl) (ib_of _) hJ hT hS1 next
theorem lloop (hS1 : S.1 ≤ 3584) : ∀ (D T : Nat) (g : Nat → Nat → Int) (y : yS) (bs : List Int) (n : Nat) (w5 w6 : Option Value), S.1 < 7 * (T + D) + 7 → 7 * T ≤ S.1 → lJx T g y bs n → x_V S 138 23 [some (.ref 1), some (.ref 2), some (.ref 100), some (.ref 115), some (.int (I (7 * (T : Int)))), w5, w6] [] (x_vm g) n (fun o _ _ => o = .inl (some (.int 1))) := by
  have el : Int32.ofNat S.1 = I (S.1 : Int) := by
    unfold I
    exact Int32.ofInt_eq_ofNat.symm
  intro D
  induction D with
  | zero =>
    intro T g y bs n w5 w6 h1 h2 hJ
    refine s138_23 rfl ?_
    refine s138_25 rfl ?_
    refine x_slen d138_26 ?_
    rw [el]
    refine s138_27 ?_
    refine s138_29 ?_
    refine s138_30 ⟨by omega, by omega⟩ ⟨by omega, by omega⟩ (fun h30 => ?_) (fun h30 => ?_)
    · refine s138_767 ?_
      refine s138_768 (st := []) (by omega) ?_
      exact congrArg (fun v => Sum.inl (some (Value.int v))) (show I 1 = 1 by decide +kernel)
    · exfalso; omega
  | succ D ih =>
    intro T g y bs n w5 w6 h1 h2 hJ
    have next : 7 * T + 7 ≤ S.1 → lNx S T (fun o _ _ => o = .inl (some (.int 1))) := by
      intro hT g' y' bs' n' w5 w6 hJ'
      refine s138_761 rfl ?_
      refine s138_764 ?_
      have := ih (T + 1) g' y' bs' n' w5 w6 (by omega) (by omega) hJ'
      rw [show (7 : Int) * ((T + 1 : Nat) : Int) = 7 * (T : Int) + 7 by omega] at this
      exact this
    refine s138_23 rfl ?_
    refine s138_25 rfl ?_
    refine x_slen d138_26 ?_
    rw [el]
    refine s138_27 ?_
    refine s138_29 ?_
    refine s138_30 ⟨by omega, by omega⟩ ⟨by omega, by omega⟩ (fun h30 => ?_) (fun h30 => ?_)
    · refine s138_767 ?_
      refine s138_768 (st := []) (by omega) ?_
      exact congrArg (fun v => Sum.inl (some (Value.int v))) (show I 1 = 1 by decide +kernel)
    · exact lbody hJ (by omega) hS1 (next (by omega))
end LW
