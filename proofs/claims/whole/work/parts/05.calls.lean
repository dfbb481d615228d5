/-! 05.calls: a call, whatever its kind, by the callee's own walk. -/
section XC
theorem x_wmoved {args a' : Array Value} {s U : State} (hW : s.WarmedH U.vm) (h : ∀ q ∈ x_Ts, q.before args s = true) : ∀ q ∈ x_Ts, q.before a' U = true := by
  intro q hq
  have h1 := h q hq
  have h2 := (List.mem_filter.mp hq).2
  unfold x_gw at h2
  rw [Bool.or_eq_true] at h2
  rcases h2 with h2 | h2
  · exact word_at hW (good_of_word h2) h1
  · split at h2
    · exact va_Nw.use rfl (va_Nw.warmM hW (va_Nw.of rfl h1))
    · exact va_Nw.use rfl (va_Nw.warmC hW (va_Nw.of rfl h1))
    · exact va_Nw.use rfl (va_Nw.warmD hW (va_Nw.of rfl h1))
    · exact va_AO.use (va_AO.moved hW.alike (va_AO.of h1))
    · cases h2
theorem x_kmoved {S : Nat × (Nat → Int32)} {w : xW} {s s' : State} (h : x_K S w s) (hvm : s.vm.Alike s'.vm) : x_K S w s' :=
  ⟨fun c q hq => u_Kn_moved hvm (h.1 c q hq), fun c h1 h2 => ⟨arrOfT_moved hvm (h.2.1 c h1 h2).1, (h.2.1 c h1 h2).2.moved hvm⟩, h.2.2.1, h.2.2.2.1.moved hvm, h.2.2.2.2.1.moved hvm, h.2.2.2.2.2.1.moved hvm, x_SF_moved h.2.2.2.2.2.2.1 hvm, x_SF_moved h.2.2.2.2.2.2.2.1 hvm, fun q hq => (h.2.2.2.2.2.2.2.2 q hq).moved hvm⟩
theorem x_code_spec {args : Array Value} {s : State} {k : Nat} (h : (x_cw k).before args s = true) :
    ∃ m meth c, s.methodNamed? (mY k) = some m ∧ s.vm.method? m = some meth ∧ meth.code = some c ∧ c.code = mC k ∧ c.maxLocals = mL k ∧ c.exceptionTable.toList.map (fun h => (h.startPc, h.endPc, h.handlerPc, h.catchType)) = mT k ∧ meth.sig.returnType = mR k ∧ meth.locks = false ∧ parseMethodDescriptor (mY k).desc = some meth.sig := by
  unfold x_cw at h
  split at h
  · rename_i ht
    obtain ⟨m, hn⟩ := Cond.code_named h
    obtain ⟨meth, c, h1, h2, h3, h4, h5, h6, h7, h8⟩ := Cond.code_spec hn h
    refine ⟨m, meth, c, hn, h1, h2, h3, h4, ?_, h5, h6, h8⟩
    have e : c.exceptionTable = #[] := by simpa using h7
    rw [ht, e]; rfl
  · obtain ⟨m, meth, c, hn, h1, h2, h3, h4, h5, h6, h7, h8⟩ := Cond.codeWith_spec h
    exact ⟨m, meth, c, hn, h1, h2, h3, h4, h5, h6, h7, h8⟩
theorem x_sl1 (w : xW) (as : List Value) (h : ∀ v ∈ as, v.category = 1) : lg_sl (as.map (x_cv w)) = as.map fun v => Slot.val (x_cv w v) := by
  induction as with
  | nil => rfl
  | cons v t ih =>
    have h1 : (x_cv w v).category = 1 := by rw [x_cv_cat]; exact h v List.mem_cons_self
    show (if (x_cv w v).category = 2 then [Slot.val (x_cv w v), .second] else [Slot.val (x_cv w v)]) ++ lg_sl (t.map (x_cv w)) = _
    rw [if_neg (by omega), ih fun u hu => h u (List.mem_cons_of_mem _ hu)]
    rfl
def x_en (nL : Nat) (as : List Value) : List (Option Value) := as.map some ++ List.replicate (nL - as.length) none
theorem x_L_entry {w : xW} {n nL : Nat} {as : List Value} (has : ∀ v ∈ as, x_ok n v ∧ v.category = 1) (hal : as.length ≤ nL) :
    x_L w n nL (x_en nL as) ((lg_sl (as.map (x_cv w)) ++ List.replicate (nL - (lg_sl (as.map (x_cv w))).length) Slot.unset).toArray) := by
  have e := x_sl1 w as (fun v hv => (has v hv).2)
  have hlen : (lg_sl (as.map (x_cv w))).length = as.length := by rw [e, List.length_map]
  obtain ⟨h1, h2, -⟩ := lv_entry (as.map (x_cv w)) (n := nL) (by rw [hlen]; exact hal)
  refine ⟨h1, h2, by unfold x_en; simp; omega, fun i v hv => ?_⟩
  unfold x_en at hv
  have hi : i < as.length := by
    rcases Nat.lt_or_ge i as.length with h | h
    · exact h
    · exfalso
      rw [List.getElem?_append_right (by rw [List.length_map]; exact h)] at hv
      obtain ⟨_, hh⟩ := List.getElem?_eq_some_iff.mp hv
      simp at hh
  rw [List.getElem?_append_left (by rw [List.length_map]; exact hi), List.getElem?_map] at hv
  cases ha : as[i]? with
  | none => rw [ha] at hv; cases hv
  | some u =>
    rw [ha] at hv
    cases hv
    obtain ⟨h3, h4⟩ := has v (List.mem_of_getElem? ha)
    refine ⟨?_, h4, h3⟩
    rw [List.getElem?_toArray, e, List.getElem?_append_left (by rw [List.length_map]; exact hi), List.getElem?_map, ha]
    rfl
variable {S : Nat × (Nat → Int32)} {w : xW} {k k' : Nat} {p : Program} {l : Launch} {e : Env} {R : Room} {s : State} {m : MethodId} {args : Array Value} {below : List Frame} {meth : Method} {c : Code} {T : State} {locs : List Loc} {cells slots : Nat} {μ : xM} {n : Nat}
set_option maxHeartbeats 1000000 in
theorem x_into {Q' : xQ} {g : JFrame} {as : List Value} (X : Stand p l e R s m args below meth c T locs cells slots) (hC : x_C S w k p e R s m args meth c) (hR : x_R w μ n T.heap) (hrm : x_rm n cells slots R) (hlo : ∀ q ∈ locs, w.1 ≤ q.base)
    (hg : g.method = m) (hsize : g.locals.size = c.maxLocals) (hmr : g.monitorRoom = 0) (hsum : (g.stack.map fun v => v.category).sum ≤ 8) {ig : Instr} (hdg : decode c.code g.pc = .ok (ig, 3))
    (hw : x_cw k' ∈ x_Ts) {mk : MethodId} (hn : s.methodNamed? (mY k') = some mk) (hpl : plainName (mY k').cls = true) (hrk : mK k' < mK k) (hml : mL k' + 19 + mW k' ≤ mW k)
    (has : ∀ v ∈ as, x_ok n v ∧ v.category = 1) (hal : as.length ≤ mL k') (body : x_V S k' 0 (x_en (mL k') as) [] μ n Q') :
    ∃ (t T' : State) (o : xO) (μ' : xM) (n' : Nat) (L : List Loc) (c' z' : Nat), (∀ acts, Steps p.tables e below (doInvoke e (T.setTop g) acts mk (as.map (x_cv w)).toArray).1 t) ∧ Q' o μ' n' ∧ Stand p l e R s m args below meth c T' (locs ++ L) (cells + c') (slots + z') ∧ (∀ q ∈ locs ++ L, w.1 ≤ q.base) ∧ x_R w μ' n' T'.heap ∧ x_rm n' (cells + c') (slots + z') R ∧ n ≤ n' ∧
      (∀ v, o = .inl v → t = T'.setTop { g with pc := g.pc + 3, stack := (v.map (x_cv w)).toList ++ g.stack } ∧ ∀ y, v = some y → x_ok n' y) ∧
      (∀ x, o = .inr x → t = (T'.setTop g).pushFrame (.throwing (x_ad w (n' - 1))) ∧ ∃ cell : Cell, T'.heap[x_ad w (n' - 1)]? = some cell ∧ cell.vm.isStatics = false ∧ s.vm.findClass (x_ex x) = some cell.cls) := by
  obtain ⟨hx, hcode, hmax, hret0, hlk0, hown, hts, hK, ⟨hrf, hrl⟩, htr, hnm, hex, -⟩ := hC
  obtain ⟨m', methk, ck, hn', hmk, hck, hbytes, hmaxl, hexc, hret, hlk, hsig⟩ := x_code_spec (hts _ hw)
  cases hn.symm.trans hn'
  have hW := X.warmed
  have hal' := hW.alike
  obtain ⟨kY, hkY, hkYn⟩ := className_of_methodNamed hn
  obtain ⟨hnmk, -⟩ := name_of_methodNamed hn hmk
  obtain ⟨Y₀, hin⟩ := X.into hg hsize hdg (as.map (x_cv w)).toArray (R' := { frames := mK k', cells := x_NM - n, slots := x_sl x_NM - x_sl n, locals := mW k' }) (by rw [hal'.method?]; exact hmk) hck hlk
    (hW.plainAt (fun q hq => by cases hkY.symm.trans hq; rw [hkYn]; exact hpl)) (by show mK k' + 1 ≤ R.frames; omega) (by show 2 * g.monitorRoom + _ + (ck.maxLocals + 11) + mW k' ≤ R.locals; rw [hmr, hmaxl]; omega) hrm.2.1 hrm.2.2
  have hentry : entryFrame mk (as.map (x_cv w)).toArray ck.maxLocals = F0 mk 0 ((lg_sl (as.map (x_cv w)) ++ List.replicate (mL k' - (lg_sl (as.map (x_cv w))).length) Slot.unset).toArray) [] := by rw [hmaxl]; exact lg_entry_eq _ _ _
  have hC' : x_C S w k' p e { frames := mK k', cells := x_NM - n, slots := x_sl x_NM - x_sl n, locals := mW k' } (T.calling g mk (as.map (x_cv w)).toArray) mk (as.map (x_cv w)).toArray methk ck :=
    ⟨hx, hbytes, hmaxl, hret, hlk, by show T.vm.findClass _ = _; rw [hal'.findClass]; exact findClass_of_methodNamed hn, x_wmoved (U := T.calling g mk (as.map (x_cv w)).toArray) hW hts, x_kmoved (s' := T.calling g mk (as.map (x_cv w)).toArray) hK hal', ⟨Nat.le_refl _, Nat.le_refl _⟩, htr, hnmk, hexc, μ, n, hR⟩
  obtain ⟨t, hst, o, μ', n', oc, L, c', z', hQ, hrun, hend, hoc, hR', hWt, hsame, hLb, hrm'⟩ := body w p l e _ _ mk _ (.java g :: below) methk ck T.heap [] 0 0 _ ⟨hC', hR, x_L_entry has hal, (fun v hv => by cases hv), (fun q hq => by cases hq), hrm.1, by show 0 + _ ≤ x_NM - n; omega, by show 0 + _ ≤ x_sl x_NM - x_sl n; omega⟩ ((T.setTop g).pushFrame (.java (entryFrame mk (as.map (x_cv w)).toArray ck.maxLocals))) rfl Y₀
  have hst' : ∀ acts, Steps p.tables e below (doInvoke e (T.setTop g) acts mk (as.map (x_cv w)).toArray).1 t := fun acts => by
    rw [hin acts]
    refine Steps.weaken (mid := [.java g]) ?_
    have hst2 := hst
    rw [show F0 mk 0 ((lg_sl (as.map (x_cv w)) ++ List.replicate (mL k' - (lg_sl (as.map (x_cv w))).length) Slot.unset).toArray) (([] : List Value).map (x_cv w)) = entryFrame mk (as.map (x_cv w)).toArray ck.maxLocals from hentry.symm] at hst2
    exact hst2
  have hle : n ≤ n' := by
    have h1 : T.heap.size ≤ t.heap.size := hsame.2.1
    have h2 := hR.1
    have h3 := hR.2.1
    have h4 := hR'.1
    have h5 := hR'.2.1
    omega
  have hrm2 : x_rm n' (cells + c') (slots + z') R := by
    obtain ⟨a1, a2, a3⟩ := hrm
    obtain ⟨b1, b2, b3⟩ := hrm'
    have b2' : c' + (x_NM - n') ≤ x_NM - n := b2
    have b3' : z' + (x_sl x_NM - x_sl n') ≤ x_sl x_NM - x_sl n := b3
    exact ⟨b1, by omega, by omega⟩
  have hlo2 : ∀ q ∈ locs ++ L, w.1 ≤ q.base := fun q hq => by
    rcases List.mem_append.mp hq with h1 | h1
    · exact hlo q h1
    · exact hLb q h1
  cases o with
  | inl v =>
    obtain ⟨rfl, hv⟩ := hoc
    obtain ⟨T', X', hW', hB, ht⟩ := X.outOf hg hdg hend hWt hsame
    have hh : T'.heap = t.heap := (congrArg State.heap ht).symm
    exact ⟨t, T', .inl v, μ', n', L, c', z', hst', hQ, X', hlo2, by rw [hh]; exact hR', hrm2, hle, (fun u hu => by cases hu; exact ⟨ht, hv⟩), (fun x hx => by cases hx)⟩
  | inr x =>
    obtain ⟨rfl, cell, h1, h2, h3⟩ := hoc
    obtain ⟨T', X', hW', hB, ht⟩ := X.outOfThrown hg hend hWt hsame
    have hh : T'.heap = t.heap := by rw [ht, Stand.throwing_heap]
    refine ⟨t, T', .inr x, μ', n', L, c', z', hst', hQ, X', hlo2, by rw [hh]; exact hR', hrm2, hle, (fun u hu => by cases hu), fun y hy => ?_⟩
    cases hy
    refine ⟨ht, cell, by rw [hh]; exact h1, h2, ?_⟩
    have h4 : T.vm.findClass (x_ex x) = some cell.cls := h3
    rw [hal'.findClass] at h4
    exact h4
end XC

section XD2
variable {S : Nat × (Nat → Int32)} {k k' pc : Nat} {L : List (Option Value)} {st : List Value} {μ : xM} {n : Nat} {Q : xQ}
/-- where a call that returns goes on -/
def x_bk (S : Nat × (Nat → Int32)) (k pc : Nat) (L : List (Option Value)) (st : List Value) (Q : xQ) : xQ := fun o μ' n' => ∃ v, o = .inl v ∧ x_V S k (pc + 3) L (v.toList ++ st) μ' n' Q
/-- what is asked of a callee -/
def x_CW (k k' : Nat) (na : Nat) : Prop :=
  x_cw k' ∈ x_Ts ∧ plainName (mY k').cls = true ∧ mK k' < mK k ∧ mL k' + 19 + mW k' ≤ mW k ∧ na ≤ mL k' ∧ (mY k').cls ≠ "java/lang/invoke/MethodHandle" ∧ (mY k').cls ≠ "java/lang/invoke/VarHandle"
theorem x_app_ok {n : Nat} {as st : List Value} (h : ∀ v ∈ as.reverse ++ st, x_ok n v) : ∀ v ∈ as, x_ok n v := fun v hv => h v (List.mem_append_left _ (List.mem_reverse.mpr hv))
theorem x_app_ok2 {n : Nat} {as st : List Value} (h : ∀ v ∈ as.reverse ++ st, x_ok n v) : ∀ v ∈ st, x_ok n v := fun v hv => h v (List.mem_append_right _ hv)
theorem x_after {w : xW} {p : Program} {l : Launch} {e : Env} {R : Room} {s : State} {m : MethodId} {args : Array Value} {below : List Frame} {meth : Method} {c : Code} {T' t : State} {locs : List Loc} {cells slots : Nat} {ls : Array Slot} {μ' : xM} {n' : Nat} {o : xO}
    (hC : x_C S w k p e R s m args meth c) (hL : x_L w n (mL k) L ls) (hst : ∀ v ∈ st, x_ok n v) (hq : x_bk S k pc L st Q o μ' n') (X' : Stand p l e R s m args below meth c T' locs cells slots) (hlo : ∀ q ∈ locs, w.1 ≤ q.base) (hR : x_R w μ' n' T'.heap) (hrm : x_rm n' cells slots R) (hle : n ≤ n')
    (hret : ∀ v, o = .inl v → t = T'.setTop { F0 m pc ls (st.map (x_cv w)) with pc := pc + 3, stack := (v.map (x_cv w)).toList ++ st.map (x_cv w) } ∧ ∀ y, v = some y → x_ok n' y) :
    ∃ t2, Steps p.tables e below t t2 ∧ x_F w R s below Q t2 := by
  obtain ⟨v, rfl, hv⟩ := hq
  obtain ⟨ht, hy⟩ := hret v rfl
  have eq1 : (v.map (x_cv w)).toList ++ st.map (x_cv w) = (v.toList ++ st).map (x_cv w) := by cases v <;> simp
  rw [ht, eq1]
  exact hv w p l e R s m args below meth c T'.heap locs cells slots ls ⟨hC, hR, x_L_mono hL hle, (fun u hu => by
    rcases List.mem_append.mp hu with h1 | h1
    · cases v with
      | none => cases h1
      | some y =>
        rw [show u = y by simpa using h1]
        exact hy y rfl
    · exact x_ok_mono (hst u h1) hle), hlo, hrm⟩ T' rfl X'
theorem x_callS {idx na : Nat} {as : List Value} (hd : decode (mC k) pc = .ok (.invokestatic idx, 3)) (hW : x_CW k k' na) (hl : Cond.methodLink (mY k).cls idx (mY k') ∈ x_Ts) (hs : Cond.static (mY k') ∈ x_Ts) (hini : Cond.initialized (mY k').cls ∈ x_Ts) (hnp : (parseMethodDescriptor (mY k').desc).map (fun d => d.parameters.length) = some na) (hna : as.length = na) (has : ∀ v ∈ as, v.category = 1) (hrest : st.length ≤ 4)
    (body : x_V S k' 0 (x_en (mL k') as) [] μ n (x_bk S k pc L st Q)) : x_V S k pc L (as.reverse ++ st) μ n Q := by
  intro w p l e R s m args below meth c H locs cells slots ls hG T hT X
  subst hT
  have hC := hG.1
  obtain ⟨hx, hcode, hmax, hret0, hlk0, hown, hts, hK, ⟨hrf, hrl⟩, htr, hnm, hex, -⟩ := id hC
  obtain ⟨hw, hpl, hrk, hml, hnl, hy1, hy2⟩ := hW
  obtain ⟨mk, methk, ck, hn, hmk, hck, -, -, -, -, -, hsig⟩ := x_code_spec (hts _ hw)
  have hstatic : methk.isStatic = true := Cond.static_spec hn hmk (hts _ hs)
  obtain ⟨kP, hkP, -⟩ := className_of_methodNamed hn
  have hinitP : kP.init = .initialized := Cond.initialized_spec (findClass_of_methodNamed hn) hkP (hts _ hini)
  have hlen : as.length = methk.sig.parameters.length := by
    rw [hsig] at hnp
    exact hna.trans (Option.some.inj hnp).symm
  have hdc : decode c.code pc = .ok (.invokestatic idx, 3) := by rw [hcode]; exact hd
  obtain ⟨vm₁, X₁, hstep⟩ := X.invokestatic hx hown (hts _ hl) hn hmk hstatic hkP hinitP ⟨hy1, hy2⟩ (g := F0 m pc ls ((as.reverse ++ st).map (x_cv w))) rfl (argsL := as.map (x_cv w)) (rest := st.map (x_cv w)) (by rw [List.length_map]; exact hlen) (by rw [List.map_append, List.map_reverse]) hdc
  obtain ⟨t, T', o, μ', n', L', c', z', h1, h2, h3, h4, h5, h6, h7, h8, -⟩ := x_into X₁ hC hG.2.1 hG.2.2.2.2.2 hG.2.2.2.2.1 (g := F0 m pc ls (st.map (x_cv w))) rfl (hG.2.2.1.1.trans hmax.symm) rfl (by have := x_sum w st; show ((st.map (x_cv w)).map _).sum ≤ 8; omega) hdc hw hn hpl hrk hml (fun v hv => ⟨x_app_ok hG.2.2.2.1 v hv, has v hv⟩) (by omega) body
  obtain ⟨t2, h9, h10⟩ := x_after hC hG.2.2.1 (x_app_ok2 hG.2.2.2.1) h2 h3 h4 h5 h6 h7 h8
  exact ⟨t2, hstep t2 fun acts => (h1 acts).trans h9, h10⟩
theorem x_recvO {w : xW} {s : State} {H : Heap} {a ci N : Nat} {C : String} {T : u_T} {ty : Nat → FieldType} (hF : x_CF ci C T N ty) (hK : x_K S w s) (hR : x_R w μ n H) (ha : a < n) (hs : x_sh a = (ci, N)) : ∃ cell : Cell, H[x_ad w a]? = some cell ∧ cell.vm.isStatics = false ∧ s.vm.findClass C = some cell.cls := by
  obtain ⟨cell, c1, c2, c3, -⟩ := x_obj hR ha hs hF.2.2.2.2.1
  exact ⟨cell, c1, by rw [c3]; rfl, by rw [c2]; exact (hK.1 ci _ hF.1).2.1⟩
theorem x_callV {idx na a ci N : Nat} {as : List Value} {TT : u_T} {ty : Nat → FieldType} (hd : decode (mC k) pc = .ok (.invokevirtual idx, 3)) (hW : x_CW k k' (na + 1)) (hF : x_CF ci (mY k').cls TT N ty) (hl : Cond.methodLink (mY k).cls idx (mY k') ∈ x_Ts) (hi : Cond.instanceMethod (mY k') ∈ x_Ts) (hse : Cond.selects (mY k').cls (mY k') (mY k') ∈ x_Ts) (hnp : (parseMethodDescriptor (mY k').desc).map (fun d => d.parameters.length) = some na) (hna : as.length = na) (hs : x_sh a = (ci, N)) (has : ∀ v ∈ as, v.category = 1) (hrest : st.length ≤ 4)
    (body : x_V S k' 0 (x_en (mL k') (.ref a :: as)) [] μ n (x_bk S k pc L st Q)) : x_V S k pc L (as.reverse ++ .ref a :: st) μ n Q := by
  intro w p l e R s m args below meth c H locs cells slots ls hG T hT X
  subst hT
  have hC := hG.1
  obtain ⟨hx, hcode, hmax, hret0, hlk0, hown, hts, hK, ⟨hrf, hrl⟩, htr, hnm, hex, -⟩ := id hC
  obtain ⟨hw, hpl, hrk, hml, hnl, hy1, hy2⟩ := hW
  obtain ⟨mk, methk, ck, hn, hmk, hck, -, -, -, -, -, hsig⟩ := x_code_spec (hts _ hw)
  obtain ⟨mk', methM, hn', hmM, hstM, habM⟩ := Cond.instanceMethod_spec (hts _ hi)
  cases hn.symm.trans hn'
  cases hmk.symm.trans hmM
  have ha : a < n := x_app_ok2 hG.2.2.2.1 (.ref a) List.mem_cons_self a rfl
  obtain ⟨cellB, hcB, hoB, hclB⟩ := x_recvO hF hK hG.2.1 ha hs
  obtain ⟨c2, r2, m2, q1, q2, q3, q4, kP, hkP, hkPi⟩ := Cond.selects_spec (hts _ hse)
  cases hclB.symm.trans q1
  cases (State.methodFound?_of_named hn ⟨hy1, hy2⟩).symm.trans q2
  cases hn.symm.trans q3
  have hselP : selectMethod e.platform s.vm cellB.cls mk = .method mk := by rw [Launch.admits_selectMethod X.admits]; exact q4
  have hlen : as.length = methk.sig.parameters.length := by
    rw [hsig] at hnp
    exact hna.trans (Option.some.inj hnp).symm
  have hdc : decode c.code pc = .ok (.invokevirtual idx, 3) := by rw [hcode]; exact hd
  obtain ⟨vm₁, X₁, hstep⟩ := X.invokevirtual hx hown (hts _ hl) hn hmk hstM hkP hkPi ⟨hy1, hy2⟩ (a := x_ad w a) (cell := cellB) hcB (fun z h => by rw [h] at hoB; cases hoB) hselP hmk habM hkP hkPi (g := F0 m pc ls ((as.reverse ++ .ref a :: st).map (x_cv w))) rfl (argsL := as.map (x_cv w)) (rest := st.map (x_cv w)) (by rw [List.length_map]; exact hlen) (by rw [List.map_append, List.map_reverse]; rfl) hdc
  obtain ⟨t, T', o, μ', n', L', c', z', h1, h2, h3, h4, h5, h6, h7, h8, -⟩ := x_into (as := .ref a :: as) X₁ hC hG.2.1 hG.2.2.2.2.2 hG.2.2.2.2.1 (g := F0 m pc ls (st.map (x_cv w))) rfl (hG.2.2.1.1.trans hmax.symm) rfl (by have := x_sum w st; show ((st.map (x_cv w)).map _).sum ≤ 8; omega) hdc hw hn hpl hrk hml (fun v hv => by
    rcases List.mem_cons.mp hv with e1 | e1
    · rw [e1]; exact ⟨fun x hx => by cases hx; exact ha, rfl⟩
    · exact ⟨x_app_ok hG.2.2.2.1 v e1, has v e1⟩) (by simp only [List.length_cons]; omega) body
  obtain ⟨t2, h9, h10⟩ := x_after hC hG.2.2.1 (x_tl (x_app_ok2 hG.2.2.2.1)) h2 h3 h4 h5 h6 h7 h8
  exact ⟨t2, hstep t2 fun acts => (h1 acts).trans h9, h10⟩
theorem x_callI {idx na a : Nat} {as : List Value} (hd : decode (mC k) pc = .ok (.invokespecial idx, 3)) (hW : x_CW k k' (na + 1)) (hin : (mY k').name = "<init>") (hT0 : mT k' = []) (hR0 : mR k' = none) (hl : Cond.methodLink (mY k).cls idx (mY k') ∈ x_Ts) (hi : Cond.instanceMethod (mY k') ∈ x_Ts) (hnp : (parseMethodDescriptor (mY k').desc).map (fun d => d.parameters.length) = some na) (hna : as.length = na) (has : ∀ v ∈ as, v.category = 1) (hrest : st.length ≤ 4)
    (body : x_V S k' 0 (x_en (mL k') (.ref a :: as)) [] μ n (x_bk S k pc L st Q)) : x_V S k pc L (as.reverse ++ .ref a :: st) μ n Q := by
  intro w p l e R s m args below meth c H locs cells slots ls hG T hT X
  subst hT
  have hC := hG.1
  obtain ⟨hx, hcode, hmax, hret0, hlk0, hown, hts, hK, ⟨hrf, hrl⟩, htr, hnm, hex, -⟩ := id hC
  obtain ⟨hw, hpl, hrk, hml, hnl, hy1, hy2⟩ := hW
  have hcw : (Cond.code (mY k') (mC k') (mL k') none).before args s = true := by
    have := hts _ hw
    unfold x_cw at this
    rw [hT0, hR0] at this
    exact this
  have ha : a < n := x_app_ok2 hG.2.2.2.1 (.ref a) List.mem_cons_self a rfl
  have hdc : decode c.code pc = .ok (.invokespecial idx, 3) := by rw [hcode]; exact hd
  have hpp : e.platform.magicAccessors = ({} : Platform).magicAccessors := by rw [X.admits.platform]
  obtain ⟨mk, methM, cM, kP, vm₁, hn, hmethM, hcodeM, -, hlocalsM, -, hkP, -, hW₁, hstep⟩ := Steps.initColdArgs (e := e) X.here hx X.warmed hpp hown hin ⟨hy1, hy2⟩ (hts _ hl) (hts _ hi) hcw (f := F0 m pc ls ((as.reverse ++ .ref a :: st).map (x_cv w))) rfl (a := x_ad w a) (argsL := as.map (x_cv w)) (rest := st.map (x_cv w)) (fun sig h => by rw [h] at hnp; rw [List.length_map]; exact hna.trans (Option.some.inj hnp).symm) (by rw [List.map_append, List.map_reverse]; rfl) hdc
  have X₁ := X.noted hW₁
  obtain ⟨t, T', o, μ', n', L', c', z', h1, h2, h3, h4, h5, h6, h7, h8, -⟩ := x_into (as := .ref a :: as) X₁ hC hG.2.1 hG.2.2.2.2.2 hG.2.2.2.2.1 (g := F0 m pc ls (st.map (x_cv w))) rfl (hG.2.2.1.1.trans hmax.symm) rfl (by have := x_sum w st; show ((st.map (x_cv w)).map _).sum ≤ 8; omega) hdc hw hn hpl hrk hml (fun v hv => by
    rcases List.mem_cons.mp hv with e1 | e1
    · rw [e1]; exact ⟨fun x hx => by cases hx; exact ha, rfl⟩
    · exact ⟨x_app_ok hG.2.2.2.1 v e1, has v e1⟩) (by simp only [List.length_cons]; omega) body
  obtain ⟨t2, h9, h10⟩ := x_after hC hG.2.2.1 (x_tl (x_app_ok2 hG.2.2.2.1)) h2 h3 h4 h5 h6 h7 h8
  exact ⟨t2, hstep t2 fun acts => (h1 acts).trans h9, h10⟩
end XD2
