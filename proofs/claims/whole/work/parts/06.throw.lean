/-! 06.throw: 'throw new X()' out of a method. -/
section XT
theorem x_SF_of {C n d : String} {args : Array Value} {s : State} (h1 : (Cond.laysStatic C n d).before args s = true) (h2 : (Cond.isRef (.static C n d)).before args s = true) : x_SF C n d s s.heap := by
  obtain ⟨c, k, i, f, a, cell, hc, hi, hst, ha, hcell, hs, hcls, hlt, hty⟩ := Cond.laysStatic_spec h1
  have hv : cell.slots[f.slot]? = some cell.slots[f.slot] := Array.getElem?_eq_getElem hlt
  have he : (Term.static C n d).eval args s none [] s = some cell.slots[f.slot] := by
    simp [Term.eval, State.fieldNamed?, hi, hst, ha, hcell, hs, hv]
  refine ⟨c, k, i, f, a, cell, _, hc, hi, hst, ha, hcell, hs, hcls, hlt, hty, hv, ?_⟩
  simp only [Cond.before, Cond.holds, Cond.value, he] at h2
  cases hx : cell.slots[f.slot] with
  | null => exact Or.inl rfl
  | ref x => exact Or.inr ⟨x, rfl⟩
  | _ => rw [hx] at h2; simp at h2
theorem x_SF_use {C n d : String} {args : Array Value} {s : State} {H0 : Heap} (h : x_SF C n d s H0) (hh : ∀ (q : Nat) (cell : Cell), H0[q]? = some cell → s.heap[q]? = some cell) : (Cond.laysStatic C n d).before args s = true ∧ (Cond.isRef (.static C n d)).before args s = true := by
  obtain ⟨c, k, i, f, a, cell, v, hc, hi, hst, ha, hcell, hs, hcls, hlt, hty, hv, hr⟩ := h
  have hcell' := hh _ _ hcell
  have he : (Term.static C n d).eval args s none [] s = some v := by
    simp [Term.eval, State.fieldNamed?, hi, hst, ha, hcell', hs, hv]
  refine ⟨by simp [Cond.before, Cond.holds, Cond.value, hc, hi, hst, ha, hcell', hs, hcls, hlt, hty], ?_⟩
  simp only [Cond.before, Cond.holds, Cond.value, he]
  rcases hr with e | ⟨x, e⟩ <;> simp [e]
variable {p : Program} {l : Launch} {e : Env} {R : Room} {s : State} {m : MethodId} {args : Array Value} {below : List Frame} {meth : Method} {c : Code} {T : State} {locs : List Loc} {cells slots : Nat}
/-- the walk, as if the method began here -/
theorem x_rebase (X : Stand p l e R s m args below meth c T locs cells slots) (h1 : cells ≤ R.cells) (h2 : slots ≤ R.slots) :
    Stand p l e { frames := R.frames, cells := R.cells - cells, slots := R.slots - slots, locals := R.locals } (T.setFrames (.invoking m args :: below)) m args below meth c T [] 0 0 := by
  obtain ⟨g₀, hfr⟩ := X.frames_eq
  have hcur : T.cur < T.threads.size := State.cur_lt_of_frames hfr
  have hf : (T.setFrames (.invoking m args :: below)).frames = .invoking m args :: below := State.frames_setFrames _ hcur
  have hm : (T.setFrames (.invoking m args :: below)).vm.method? m = some meth := X.method'
  refine ⟨X.admits, X.cas, X.clock, hf, ?_, ?_, hm, X.code, X.here, X.tail, State.WarmedH.refl _, (State.stackLimits_setFrames _ _ _).symm, (State.stackBytes_setFrames _ _).symm, ?_⟩
  · have hr := X.room
    have e1 := State.localsInUse_invoking X.frames X.method X.code
    have e2 := State.localsInUse_invoking hf hm X.code
    have e3 := X.heapSize
    have e4 := X.used
    have e5 : (T.setFrames (.invoking m args :: below)).slotsTrue = true := X.book
    have e6 : (T.setFrames (.invoking m args :: below)).heap.size = T.heap.size := rfl
    have e7 : (T.setFrames (.invoking m args :: below)).slotsUsed = T.slotsUsed := rfl
    have e8 := State.stackLimits_setFrames e.platform T (.invoking m args :: below)
    have e9 := State.stackBytes_setFrames T (.invoking m args :: below)
    have e10 := X.limits
    have e11 := X.bytes
    have e12 : s.frames.length = (T.setFrames (.invoking m args :: below)).frames.length := by rw [hf, X.frames]
    simp only [State.hasRoom, Bool.and_eq_true, decide_eq_true_eq] at hr ⊢
    rw [e2, e5, e6, e7, e8, e9, e10, e11, ← e12]
    rw [e1] at hr
    obtain ⟨⟨⟨⟨a1, a2, a3, a4, a5, a6⟩, a7⟩, a8⟩, a9⟩ := hr
    exact ⟨⟨⟨⟨a1, a2, a3, a4, a5, a6⟩, by omega⟩, by omega⟩, rfl⟩
  · have hh := X.hears
    have e1 : ∀ q, (T.setFrames (.invoking m args :: below)).code? q = s.code? q := fun q => by
      rw [State.code?_eq, State.code?_eq]
      show (T.vm.method? q).bind _ = _
      rw [X.warmed.alike.method?]
    unfold State.hears at hh ⊢
    split at hh
    · rw [e1]; exact hh
    · trivial
    · trivial
    · show (T.vm.method? m).any _ = true
      rw [X.warmed.alike.method?]; exact hh
  · obtain ⟨t, ht, -⟩ := State.frames_cons hf
    have h := (State.sameButNew.refl (T.setFrames (.invoking m args :: below)) ht).setFrames T.frames (State.cur_lt_of_frames hf)
    rw [State.setFrames_setFrames] at h
    obtain ⟨t', ht', -⟩ := State.frames_cons hfr
    rw [State.setFrames_self ht'] at h
    exact h
theorem x_heap_same {s U : State} {k n : Nat} (h : s.sameButNew U [] k n) {q : Nat} {cell : Cell} (hq : s.heap[q]? = some cell) : U.heap[q]? = some cell := by
  obtain ⟨c', h1, h2, h3, h4⟩ := h.2.2.2.2.2 q cell hq
  have e : c'.slots = cell.slots := by
    apply Array.ext_getElem?
    intro i
    exact h4 i (by simp)
  rw [h1, h2, e]
/-- the words of a throw: in the tables, or one of the four that speak of the heap -/
def x_ta (q : Cond) : Bool := decide (q ∈ x_Ts) || decide (q = .laysStatic "java/lang/Throwable" "UNASSIGNED_STACK" "[Ljava/lang/StackTraceElement;") || decide (q = .laysStatic "java/lang/Throwable" "SUPPRESSED_SENTINEL" "Ljava/util/List;") || decide (q = .isRef (.static "java/lang/Throwable" "UNASSIGNED_STACK" "[Ljava/lang/StackTraceElement;")) || decide (q = .isRef (.static "java/lang/Throwable" "SUPPRESSED_SENTINEL" "Ljava/util/List;"))
set_option maxHeartbeats 1000000 in
theorem x_throw {S : Nat × (Nat → Int32)} {k pc n x idx ic : Nat} {L : List (Option Value)} {st : List Value} {μ : xM} {Q : xQ} {names : List String} (hd0 : decode (mC k) pc = .ok (.new idx, 3)) (hd1 : decode (mC k) (pc + 3) = .ok (.dup, 1)) (hd2 : decode (mC k) (pc + 4) = .ok (.invokespecial ic, 3)) (hd3 : decode (mC k) (pc + 7) = .ok (.athrow, 1))
    (hl : Cond.classLink (mY k).cls idx (x_ex x) ∈ x_Ts) (hins : Cond.instantiable (x_ex x) 6 ∈ x_Ts) (hini : Cond.initialized (x_ex x) ∈ x_Ts) (hcls : Bundle.fit (x_ex x) = true) (hnames : ∀ q ∈ names, Bundle.fit q = true) (hat : (Bundle.ownAtoms0 (mY k).cls ic (x_ex x) names).all x_ta = true)
    (hT : mT k = []) (hs : x_sh n = (99, 6)) (hn : n < x_NM) (hK : names.length + 3 < mK k) (hW : 13 * (names.length + 1) + 60 ≤ mW k) (hst : st.length ≤ 4) (hQ : Q (.inr x) μ (n + 1)) : x_V S k pc L st μ n Q := by
  intro w p l e R s m args below meth c H locs cells slots ls hG T hT0 X
  subst hT0
  have hC := hG.1
  obtain ⟨hx, hcode, hmax, hret0, hlk0, hown, hts, hKK, ⟨hrf, hrl⟩, htr, hnm, hex, -⟩ := id hC
  obtain ⟨r1, r2, r3⟩ := x_rm_new (N := 6) hG.2.2.2.2.2 hn (congrArg Prod.snd hs)
  have X' := x_rebase X (by omega) (by omega)
  have hal := X.warmed.alike
  have hts' : ∀ q ∈ x_Ts, q.before args (T.setFrames (.invoking m args :: below)) = true := x_wmoved (U := T.setFrames (.invoking m args :: below)) X.warmed hts
  have hK' : x_K S w (T.setFrames (.invoking m args :: below)) := x_kmoved (s' := T.setFrames (.invoking m args :: below)) hKK hal
  have hown' : (T.setFrames (.invoking m args :: below)).vm.findClass (mY k).cls = some m.cls := by
    show T.vm.findClass _ = _
    rw [hal.findClass]; exact hown
  have hheap : ∀ q cell, w.2.2.2.1[q]? = some cell → (T.setFrames (.invoking m args :: below)).heap[q]? = some cell := fun q cell h => by
    have hq : q < w.1 := by
      rw [hKK.2.2.1.2.2]
      exact (Array.getElem?_eq_some_iff.mp h).1
    exact (hG.2.1.2.2.1 q hq).trans h
  have a1 := x_SF_use (args := args) hK'.2.2.2.2.2.2.1 hheap
  have a2 := x_SF_use (args := args) hK'.2.2.2.2.2.2.2.1 hheap
  have hatoms : ∀ q ∈ Bundle.ownAtoms0 (mY k).cls ic (x_ex x) names, q.before args (T.setFrames (.invoking m args :: below)) = true := fun q hq => by
    have h := List.all_eq_true.mp hat q hq
    simp only [x_ta, Bool.or_eq_true, decide_eq_true_eq] at h
    rcases h with (((h | h) | h) | h) | h
    · exact hts' q h
    · rw [h]; exact a1.1
    · rw [h]; exact a2.1
    · rw [h]; exact a1.2
    · rw [h]; exact a2.2
  obtain ⟨cX, kX, hfX, hkX, -⟩ := Cond.instantiable_spec (hts' _ hins)
  have hout : ∀ y ∈ c.exceptionTable.toList, covers y (pc + 7) = false := fun y hy => by
    rw [hT] at hex
    have : c.exceptionTable.toList = [] := List.map_eq_nil_iff.mp hex
    rw [this] at hy
    cases hy
  have w1 : W p l e { frames := R.frames, cells := R.cells - cells, slots := R.slots - slots, locals := R.locals } (T.setFrames (.invoking m args :: below)) m args below meth c T.heap [] 0 0
      (fun U => U.status = .running ∧ Ended U below (.threw T.heap.size) ∧ (T.setFrames (.invoking m args :: below)).WarmedH U.vm ∧ (T.setFrames (.invoking m args :: below)).sameButNew ({ U with vm := (T.setFrames (.invoking m args :: below)).vm } : State) [] (0 + 1) (0 + 6) ∧ ∃ ce : Cell, U.heap[T.heap.size]? = some ce ∧ (T.setFrames (.invoking m args :: below)).vm.findClass (x_ex x) = some ce.cls ∧ ce.vm = .none) (F0 m pc ls (st.map (x_cv w))) := by
    refine W.newcK hx hcode hown' (hts' _ hl) (hts' _ hins) (hts' _ hini) rfl hd0 (by show 0 + 1 ≤ R.cells - cells; omega) (by show 0 + 6 ≤ R.slots - slots; omega) hfX rfl fun H' kC hkC e1 e2 e3 => ?_
    refine lv_dup hx hcode hd1 rfl ?_
    intro T2 hT2 X2
    obtain ⟨U, q1, q2, q3, q4, q5, ce, q6, q7⟩ := X2.ctorThrow0 hx htr hown' hcls hnames hatoms (fun y hy => by cases hy) hfX hkC (a := T.heap.size) (by rw [hT2]; exact e1) (Nat.le_refl _) (g := F0 m (pc + 4) ls (.ref T.heap.size :: .ref T.heap.size :: st.map (x_cv w))) rfl (hG.2.2.1.1.trans hmax.symm) rfl rfl rfl (by rw [hcode]; exact hd2) (by rw [hcode]; exact hd3) hout (by show names.length + 3 < R.frames; omega)
      (by
        have := x_sum w st
        show 2 * 0 + ((Value.ref T.heap.size :: st.map (x_cv w)).map fun v => v.category).sum + _ ≤ R.locals
        have h1 : (Value.ref T.heap.size).category = 1 := rfl
        rw [List.map_cons, List.sum_cons, h1]
        omega) hlk0
    exact ⟨U, q1, q2, q3, q4, q5, ce, q6, q7.cls, q7.vm⟩
  obtain ⟨U, h1, h2, h3, h4, h5, ce, h6, h7, h8⟩ := w1 T rfl X'
  have n2 : 2 ≤ n := hG.2.1.1
  have hsz : T.heap.size = x_ad w n := by rw [x_ad2 n2]; exact hG.2.1.2.1
  have hUsz : U.heap.size = T.heap.size + 1 := by
    have b1 := (Array.getElem?_eq_some_iff.mp h6).1
    have b2 : U.heap.size ≤ T.heap.size + (0 + 1) := h5.2.2.1
    omega
  have hold : ∀ q : Nat, q < T.heap.size → U.heap[q]? = T.heap[q]? := fun q hq => by
    have b1 : (T.setFrames (.invoking m args :: below)).heap[q]? = some T.heap[q] := Array.getElem?_eq_getElem hq
    have b2 : U.heap[q]? = some T.heap[q] := x_heap_same h5 b1
    rw [b2, Array.getElem?_eq_getElem hq]
  have h5' : T.sameButNew ({ U with vm := T.vm } : State) [] (0 + 1) (0 + 6) := by
    obtain ⟨e2, q2, q3, q4, q5, q6⟩ := h5
    rw [State.setFrames_setFrames] at e2
    exact ⟨e2, q2, q3, q4, q5, q6⟩
  have h9 := X.same.trans (h5'.setVm s.vm)
  rw [List.append_nil] at h9
  refine ⟨U, h1, .inr x, μ, n + 1, .threw T.heap.size, locs, cells + (0 + 1), slots + (0 + 6), hQ, h2, h3, ⟨by rw [hsz]; rfl, ce, ?_, by rw [h8]; rfl, ?_⟩, ?_, State.WarmedH.trans X.warmed h4, h9, hG.2.2.2.2.1, r3⟩
  · show U.heap[x_ad w n]? = some ce
    rw [← hsz]; exact h6
  · have b1 : T.vm.findClass (x_ex x) = some ce.cls := h7
    rw [hal.findClass] at b1
    exact b1
  · refine x_R_new hG.2.1 (fun _ _ _ => rfl) (fun i => x_ok_mono (hG.2.1.2.2.2.2 n i) (Nat.le_succ n)) ?_ hUsz hold
    unfold x_cell
    rw [hs, if_neg (show ¬ 99 < 50 by omega), if_pos (show 99 < 100 by omega)]
    exact ⟨ce, by rw [← hsz]; exact h6, by rw [h8]; rfl⟩
end XT

section XF
/-- the rows of an exception table up to the one that takes the object -/
def x_hit (pl : Platform) (s0 : State) (d : ClassId) (pc : Nat) (thrown : ClassId) : List ExceptionTableEntry → Nat → Prop
  | [], _ => False
  | y :: t, h => covers y pc = true ∧ y.catchType ≠ 0 ∧ ∃ c, s0.vm.ClassLinks pl d y.catchType c ∧ ((s0.vm.assignable thrown c = true ∧ y.handlerPc = h) ∨ (s0.vm.assignable thrown c = false ∧ x_hit pl s0 d pc thrown t h))
theorem x_find {e : Env} {s0 : State} {f : JFrame} {a : Addr} {cell : Cell} (hobj : ∀ k, cell.vm ≠ .statics k) (hk0 : ∃ k, s0.vm.classes[cell.cls]? = some k) (h : Nat) :
    ∀ (ts : List ExceptionTableEntry) (U : State), s0.WarmedH U.vm → U.heap[a]? = some cell → x_hit e.platform s0 f.method.cls f.pc cell.cls ts h →
      ∃ vm', s0.WarmedH vm' ∧ ∀ (Q : Handler → Pre) (E : CtlPost) (d : Bool) (acts : List Action), wp (findHandler.go f a ts) Q E e d acts U ↔ Q (.found h) d acts (U.setVm vm') := by
  intro ts
  obtain ⟨k1, hk1⟩ := hk0
  induction ts with
  | nil => intro U _ _ hh; exact hh.elim
  | cons y t ih =>
    intro U hW hc hh
    obtain ⟨h1, h0, c, hl, hor⟩ := hh
    obtain ⟨ha, ht⟩ := (resolveClass_links e.toSetting (hW.classLinks hl)).op (op := VmOp.resolveClass f.method.cls y.catchType) rfl
    obtain ⟨dk, _, _, kt, hd, _, _, _, _, hkt, _, hopen⟩ := hl.here
    have hW2 := hW.noted hd hopen (State.rightAt_cls hl)
    obtain ⟨k1', hk1', -⟩ := hW2.alike.2.2 _ _ hk1
    obtain ⟨k2', hk2', -⟩ := hW2.alike.2.2 _ _ hkt
    simp only [covers] at h1
    rcases hor with ⟨hf, rfl⟩ | ⟨hf, hr⟩
    · refine ⟨_, hW2, fun Q E d acts => ?_⟩
      have hf' : (U.vm.noted f.method.cls y.catchType (.cls c)).assignable cell.cls c = true := by rw [hW2.alike.assignable]; exact hf
      simp [findHandler.go, h1, h0, ha, ht, hc, hobj, hk1', hk2', hf', VmOp.dirties, VmOp.acts]
    · obtain ⟨vm', hW', hq⟩ := ih (U.setVm (U.vm.noted f.method.cls y.catchType (.cls c))) hW2 hc hr
      refine ⟨vm', hW', fun Q E d acts => ?_⟩
      have hf' : (U.vm.noted f.method.cls y.catchType (.cls c)).assignable cell.cls c = false := by rw [hW2.alike.assignable]; exact hf
      have hq1 := hq Q E d acts
      have e1 : (U.setVm (U.vm.noted f.method.cls y.catchType (.cls c))).setVm vm' = U.setVm vm' := rfl
      rw [e1] at hq1
      rw [← hq1]
      simp [findHandler.go, h1, h0, ha, ht, hc, hobj, hk1', hk2', hf', VmOp.dirties, VmOp.acts]
variable {p : Program} {l : Launch} {e : Env} {R : Room} {s : State} {m : MethodId} {args : Array Value} {below : List Frame} {meth : Method} {c : Code} {T : State} {locs : List Loc} {cells slots : Nat}
theorem x_caught (X : Stand p l e R s m args below meth c T locs cells slots) {a : Addr} {g : JFrame} (hg : g.method = m) {cell : Cell} (hcell : T.heap[a]? = some cell) (hobj : cell.vm.isStatics = false) (hk0 : ∃ k, s.vm.classes[cell.cls]? = some k) {h : Nat} (hh : x_hit e.platform s m.cls g.pc cell.cls c.exceptionTable.toList h) :
    ∃ vm', Stand p l e R s m args below meth c (T.setVm vm') locs cells slots ∧ ∀ target, Steps p.tables e below ((T.setVm vm').setTop { g with pc := h, stack := [.ref a] }) target → Steps p.tables e below ((T.setTop g).pushFrame (.throwing a)) target := by
  subst hg
  obtain ⟨vm', hW', hq⟩ := x_find (e := e) (s0 := s) (f := g) (a := a) (VmData.ne_statics_of hobj) hk0 h c.exceptionTable.toList ((T.setTop g).pushFrame (.throwing a)) X.warmed hcell hh
  refine ⟨vm', X.noted hW', fun target hrest => ?_⟩
  obtain ⟨hgo, hw⟩ := X.here.throwing (g := g) a
  refine Steps.head hgo hw ?_
  have hst : (stepThrowing e ((T.setTop g).pushFrame (.throwing a)) a (.java g :: T.frames.tail)).Is ((((T.setTop g).pushFrame (.throwing a)).setVm vm').setFrames (.java { g with pc := h, stack := [.ref a] } :: T.frames.tail)) [] := by
    simp only [stepThrowing, searchFrame, vmDo]
    generalize hr : Sem.go _ e false [] ((T.setTop g).pushFrame (.throwing a)) = res
    have hfind : ∀ (Q : Handler → Pre) (E : CtlPost) (d : Bool) (acts : List Action), wp (findHandler g a) Q E e d acts ((T.setTop g).pushFrame (.throwing a)) ↔ Q (.found h) d acts (((T.setTop g).pushFrame (.throwing a)).setVm vm') := fun Q E d acts => by
      rw [Jvm.W.findHandler_eq (s := (T.setTop g).pushFrame (.throwing a)) (meth := meth) (code := c) X.method' X.code]
      exact hq Q E d acts
    obtain ⟨as, rfl, ha⟩ := Sem.eq_ok_of hr (a := Handler.found h) (s' := ((T.setTop g).pushFrame (.throwing a)).setVm vm') (acts' := []) (by simp [hfind _ _ _ _])
    exact ⟨rfl, ha⟩
  rw [stepThread_throwing (frames_entered X.here.top _), hst.1]
  obtain ⟨g₀, hr⟩ := X.frames_eq
  have hr' : (T.setVm vm').frames = .java g₀ :: below := hr
  rw [State.setTop_of_frames _ hr'] at hrest
  have e2 : (((T.setTop g).pushFrame (.throwing a)).setVm vm').setFrames (.java { g with pc := h, stack := [.ref a] } :: T.frames.tail) = (T.setVm vm').setFrames (.java { g with pc := h, stack := [.ref a] } :: below) := by
    rw [X.tail, State.pushFrame, State.setTop_of_frames _ hr]
    show (((T.setVm vm').setFrames _).setFrames _).setFrames _ = _
    rw [State.setFrames_setFrames, State.setFrames_setFrames]
  rw [e2]
  exact hrest
end XF

section XG
variable {S : Nat × (Nat → Int32)} {k k' pc : Nat} {L : List (Option Value)} {st : List Value} {μ : xM} {n : Nat} {Q : xQ}
/-- a constructor of a nest mate -/
theorem x_callIN {idx na a : Nat} {as : List Value} {host : String} (hd : decode (mC k) pc = .ok (.invokespecial idx, 3)) (hW : x_CW k k' (na + 1)) (hin : (mY k').name = "<init>") (hT0 : mT k' = []) (hR0 : mR k' = none) (hl : Cond.methodLinkNest (mY k).cls idx (mY k') host ∈ x_Ts) (hi : Cond.instanceMethod (mY k') ∈ x_Ts) (hnp : (parseMethodDescriptor (mY k').desc).map (fun d => d.parameters.length) = some na) (hna : as.length = na) (has : ∀ v ∈ as, v.category = 1) (hrest : st.length ≤ 4)
    (body : x_V S k' 0 (x_en (mL k') (.ref a :: as)) [] μ n (x_bk S k pc L st Q)) : x_V S k pc L (as.reverse ++ .ref a :: st) μ n Q := by
  intro w p l e R s m args below meth c H locs cells slots ls hG T hT X
  subst hT
  have hC := hG.1
  obtain ⟨hx, hcode, hmax, hret0, hlk0, hown, hts, hK, ⟨hrf, hrl⟩, htr, hnm, hex, -⟩ := id hC
  obtain ⟨hw, hpl, hrk, hml, hnl, hy1, hy2⟩ := hW
  have hcw : (Cond.code (mY k') (mC k') (mL k') none).before args s = true := by
    have := hts _ hw
    unfold x_cw at this
    rw [hT0, hR0] at this
    exact this
  have ha : a < n := x_app_ok2 hG.2.2.2.1 (.ref a) List.mem_cons_self a rfl
  have hdc : decode c.code pc = .ok (.invokespecial idx, 3) := by rw [hcode]; exact hd
  have hpp : e.platform.magicAccessors = ({} : Platform).magicAccessors := by rw [X.admits.platform]
  obtain ⟨mk, methM, cM, kP, vm₁, hn, hmethM, hcodeM, -, hlocalsM, -, hkP, -, hW₁, hstep⟩ := Steps.initColdArgsNest (e := e) X.here hx X.warmed hpp hown hin ⟨hy1, hy2⟩ (hts _ hl) (hts _ hi) hcw (f := F0 m pc ls ((as.reverse ++ .ref a :: st).map (x_cv w))) rfl (a := x_ad w a) (argsL := as.map (x_cv w)) (rest := st.map (x_cv w)) (fun sig h => by rw [h] at hnp; rw [List.length_map]; exact hna.trans (Option.some.inj hnp).symm) (by rw [List.map_append, List.map_reverse]; rfl) hdc
  have X₁ := X.noted hW₁
  obtain ⟨t, T', o, μ', n', L', c', z', h1, h2, h3, h4, h5, h6, h7, h8, -⟩ := x_into (as := .ref a :: as) X₁ hC hG.2.1 hG.2.2.2.2.2 hG.2.2.2.2.1 (g := F0 m pc ls (st.map (x_cv w))) rfl (hG.2.2.1.1.trans hmax.symm) rfl (by have := x_sum w st; show ((st.map (x_cv w)).map _).sum ≤ 8; omega) hdc hw hn hpl hrk hml (fun v hv => by
    rcases List.mem_cons.mp hv with e1 | e1
    · rw [e1]; exact ⟨fun x hx => by cases hx; exact ha, rfl⟩
    · exact ⟨x_app_ok hG.2.2.2.1 v e1, has v e1⟩) (by simp only [List.length_cons]; omega) body
  obtain ⟨t2, h9, h10⟩ := x_after hC hG.2.2.1 (x_tl (x_app_ok2 hG.2.2.2.1)) h2 h3 h4 h5 h6 h7 h8
  exact ⟨t2, hstep t2 fun acts => (h1 acts).trans h9, h10⟩
/-- the rows of a method's table, by words -/
def x_hs (k pc x : Nat) : List (Nat × Nat × Nat × Nat) → Nat → Prop
  | [], _ => False
  | (a, b, hp, ct) :: t, h => (decide (a ≤ pc) && decide (pc < b)) = true ∧ ct ≠ 0 ∧ ∃ C, Cond.classLink (mY k).cls ct C ∈ x_Ts ∧ ((Cond.castable (x_ex x) C ∈ x_Ts ∧ hp = h) ∨ ((x_ex x, C) ∈ x_NC ∧ x_hs k pc x t h))
theorem x_hs_hit {w : xW} {p : Program} {e : Env} {R : Room} {s : State} {m : MethodId} {args : Array Value} {meth : Method} {c : Code} {x h : Nat} {cls : ClassId} (hpl : e.platform.magicAccessors = ({} : Platform).magicAccessors) (hC : x_C S w k p e R s m args meth c) (hcl : s.vm.findClass (x_ex x) = some cls) :
    ∀ (ts : List ExceptionTableEntry), x_hs k pc x (ts.map (fun h => (h.startPc, h.endPc, h.handlerPc, h.catchType))) h → x_hit e.platform s m.cls pc cls ts h := by
  obtain ⟨hx, hcode, hmax, hret0, hlk0, hown, hts, hK, -⟩ := hC
  intro ts
  induction ts with
  | nil => intro hh; exact hh
  | cons y t ih =>
    intro hh
    obtain ⟨h1, h0, C, hl, hor⟩ := hh
    obtain ⟨c5, hc5, hcl5⟩ := Cond.classLink_spec hown (hts _ hl) e.platform hpl
    refine ⟨h1, h0, c5, hcl5, ?_⟩
    rcases hor with ⟨hcast, hp⟩ | ⟨hnc, hr⟩
    · obtain ⟨c3, c4, hc3, hc4, hasg⟩ := Cond.castable_spec (hts _ hcast)
      cases hc3.symm.trans hcl
      cases hc4.symm.trans hc5
      exact Or.inl ⟨hasg, hp⟩
    · obtain ⟨c3, c4, hc3, hc4, hasg⟩ := hK.2.2.2.2.2.2.2.2 _ hnc
      cases hc3.symm.trans hcl
      cases hc4.symm.trans hc5
      exact Or.inr ⟨hasg, ih hr⟩
/-- where a call goes on that may throw -/
def x_bt (S : Nat × (Nat → Int32)) (k pc : Nat) (L : List (Option Value)) (st : List Value) (Q : xQ) : xQ := fun o μ' n' => match o with
  | .inl v => x_V S k (pc + 3) L (v.toList ++ st) μ' n' Q
  | .inr x => ∃ h, x_hs k pc x (mT k) h ∧ x_V S k h L [.ref (n' - 1)] μ' n' Q
theorem x_callVT {idx na a ci N : Nat} {as : List Value} {TT : u_T} {ty : Nat → FieldType} (hd : decode (mC k) pc = .ok (.invokevirtual idx, 3)) (hW : x_CW k k' (na + 1)) (hF : x_CF ci (mY k').cls TT N ty) (hl : Cond.methodLink (mY k).cls idx (mY k') ∈ x_Ts) (hi : Cond.instanceMethod (mY k') ∈ x_Ts) (hse : Cond.selects (mY k').cls (mY k') (mY k') ∈ x_Ts) (hnp : (parseMethodDescriptor (mY k').desc).map (fun d => d.parameters.length) = some na) (hna : as.length = na) (hs : x_sh a = (ci, N)) (has : ∀ v ∈ as, v.category = 1) (hrest : st.length ≤ 4)
    (body : x_V S k' 0 (x_en (mL k') (.ref a :: as)) [] μ n (x_bt S k pc L st Q)) : x_V S k pc L (as.reverse ++ .ref a :: st) μ n Q := by
  intro w p l e R s m args below meth c H locs cells slots ls hG T hT X
  subst hT
  have hC := hG.1
  obtain ⟨hx, hcode, hmax, hret0, hlk0, hown, hts, hK, ⟨hrf, hrl⟩, htr, hnm, hex, -⟩ := id hC
  obtain ⟨hw, hpl, hrk, hml, hnl, hy1, hy2⟩ := hW
  obtain ⟨mk, methk, ck, hn, hmk, hck, -, -, -, -, -, hsig⟩ := x_code_spec (hts _ hw)
  obtain ⟨mk', methM, hn', hmM, hstM, habM⟩ := Cond.instanceMethod_spec (hts _ hi)
  cases hn.symm.trans hn'
  cases hmk.symm.trans hmM
  have ha : a < n := x_app_ok2 hG.2.2.2.1 (.ref a) List.mem_cons_self a rfl
  obtain ⟨cellB, hcB, hoB, hclB⟩ := x_recvO hF hK hG.2.1 ha hs
  obtain ⟨c2, r2, m2, q1, q2, q3, q4, kP, hkP, hkPi⟩ := Cond.selects_spec (hts _ hse)
  cases hclB.symm.trans q1
  cases (State.methodFound?_of_named hn ⟨hy1, hy2⟩).symm.trans q2
  cases hn.symm.trans q3
  have hselP : selectMethod e.platform s.vm cellB.cls mk = .method mk := by rw [Launch.admits_selectMethod X.admits]; exact q4
  have hlen : as.length = methk.sig.parameters.length := by
    rw [hsig] at hnp
    exact hna.trans (Option.some.inj hnp).symm
  have hdc : decode c.code pc = .ok (.invokevirtual idx, 3) := by rw [hcode]; exact hd
  obtain ⟨vm₁, X₁, hstep⟩ := X.invokevirtual hx hown (hts _ hl) hn hmk hstM hkP hkPi ⟨hy1, hy2⟩ (a := x_ad w a) (cell := cellB) hcB (fun z h => by rw [h] at hoB; cases hoB) hselP hmk habM hkP hkPi (g := F0 m pc ls ((as.reverse ++ .ref a :: st).map (x_cv w))) rfl (argsL := as.map (x_cv w)) (rest := st.map (x_cv w)) (by rw [List.length_map]; exact hlen) (by rw [List.map_append, List.map_reverse]; rfl) hdc
  obtain ⟨t, T', o, μ', n', L', c', z', h1, h2, h3, h4, h5, h6, h7, h8, h8x⟩ := x_into (as := .ref a :: as) X₁ hC hG.2.1 hG.2.2.2.2.2 hG.2.2.2.2.1 (g := F0 m pc ls (st.map (x_cv w))) rfl (hG.2.2.1.1.trans hmax.symm) rfl (by have := x_sum w st; show ((st.map (x_cv w)).map _).sum ≤ 8; omega) hdc hw hn hpl hrk hml (fun v hv => by
    rcases List.mem_cons.mp hv with e1 | e1
    · rw [e1]; exact ⟨fun x hx => by cases hx; exact ha, rfl⟩
    · exact ⟨x_app_ok hG.2.2.2.1 v e1, has v e1⟩) (by simp only [List.length_cons]; omega) body
  cases o with
  | inl v =>
    obtain ⟨t2, h9, h10⟩ := x_after (Q := Q) (o := .inl v) hC hG.2.2.1 (x_tl (x_app_ok2 hG.2.2.2.1)) ⟨v, rfl, h2⟩ h3 h4 h5 h6 h7 h8
    exact ⟨t2, hstep t2 fun acts => (h1 acts).trans h9, h10⟩
  | inr x =>
    obtain ⟨hpc, hhs, hv⟩ := h2
    obtain ⟨ht, cell, hcell, hobj, hcl⟩ := h8x x rfl
    have hpp : e.platform.magicAccessors = ({} : Platform).magicAccessors := by rw [X.admits.platform]
    have hit := x_hs_hit (pc := pc) hpp hC hcl c.exceptionTable.toList (by rw [hex]; exact hhs)
    obtain ⟨vm2, X2, hst2⟩ := x_caught h3 (g := F0 m pc ls (st.map (x_cv w))) rfl hcell hobj (by obtain ⟨k9, h9, -⟩ := Vm.findClass_spec hcl; exact ⟨k9, h9⟩) hit
    have n2 := h5.1
    obtain ⟨t2, h9, h10⟩ := hv w p l e R s m args below meth c T'.heap _ _ _ ls ⟨hC, h5, x_L_mono hG.2.2.1 h7, (fun u hu => by
      rw [List.mem_singleton.mp hu]
      exact fun y hy => by cases hy; exact Nat.sub_lt (Nat.lt_of_lt_of_le Nat.zero_lt_two n2) Nat.zero_lt_one), h4, h6⟩ (T'.setVm vm2) rfl X2
    exact ⟨t2, hstep t2 fun acts => (h1 acts).trans (by rw [ht]; exact hst2 t2 h9), h10⟩
end XG
