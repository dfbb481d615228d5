/-! 02.mini: a small machine over the big one. Memory is a function (address, place) ↦ value; addresses are counted in the order of making (0: the static table, 1: the script).
x_V k pc L st μ n Q: method k, at pc with locals L and stack st, over memory μ with n cells made, comes to an end (o, μ', n') with Q. -/
section XD
abbrev xM : Type := Nat → Nat → Value
def x_up (μ : xM) (a i : Nat) (v : Value) : xM := fun b j => if b = a ∧ j = i then v else μ b j
def x_nw (μ : xM) (a : Nat) (f : Nat → Value) : xM := fun b j => if b = a then f j else μ b j
abbrev xO : Type := Option Value ⊕ Nat
abbrev xQ : Type := xO → xM → Nat → Prop
/-- what is fixed: where the new cells begin, the table, the script, the heap at the start, classes and places, array classes -/
abbrev xW : Type := Nat × Nat × Nat × Heap × va_G × (Nat → ClassId)
def x_ad (w : xW) (x : Nat) : Nat := if x = 0 then w.2.1 else if x = 1 then w.2.2.1 else w.1 + (x - 2)
def x_cv (w : xW) (v : Value) : Value := match v with
  | .ref x => .ref (x_ad w x)
  | y => y
def x_ok (n : Nat) (v : Value) : Prop := ∀ x, v = .ref x → x < n
def x_cell (w : xW) (μ : xM) (j : Nat) (H : Heap) : Prop :=
  if (x_sh j).1 < 50 then t_OB (x_ad w j) (w.2.2.2.2.1.1 (x_sh j).1) (x_sh j).2 (w.2.2.2.2.1.2 (x_sh j).1) H (fun i => x_cv w (μ j i))
  else if (x_sh j).1 < 100 then ∃ cell : Cell, H[x_ad w j]? = some cell ∧ cell.vm.isStatics = false
  else H[x_ad w j]? = some (arrV (w.2.2.2.2.2 (x_sh j).1) (x_sh j).2 (fun i => x_cv w (μ j i)))
def x_R (w : xW) (μ : xM) (n : Nat) (H : Heap) : Prop :=
  2 ≤ n ∧ H.size = w.1 + (n - 2) ∧ (∀ q : Nat, q < w.1 → H[q]? = w.2.2.2.1[q]?) ∧ (∀ j, 2 ≤ j → j < n → x_cell w μ j H) ∧ ∀ j i, x_ok n (μ j i)
/-- a static field that holds a reference, in the heap at the start -/
def x_SF (C n d : String) (s : State) (H0 : Heap) : Prop :=
  ∃ (c : ClassId) (k : Class) (i : Nat) (f : Field) (a : Nat) (cell : Cell) (v : Value), s.vm.findClass C = some c ∧ s.fieldFound? C n d = some (c, k, i, f) ∧ f.isStatic = true ∧ k.statics = some a ∧ H0[a]? = some cell ∧ cell.vm.isStatics = true ∧ cell.cls = c ∧ f.slot < cell.slots.size ∧ k.staticTypes[f.slot]? = some f.type ∧ cell.slots[f.slot]? = some v ∧ (v = .null ∨ ∃ x, v = .ref x)
theorem x_SF_moved {C n d : String} {s s' : State} {H0 : Heap} (h : x_SF C n d s H0) (hvm : s.vm.Alike s'.vm) : x_SF C n d s' H0 := by
  obtain ⟨c, k, i, f, a, cell, v, h1, h2, h3, h4, h5, h6, h7, h8, h9, h10⟩ := h
  obtain ⟨k', hi', he⟩ := State.fieldFound?_setVm hvm h2
  exact ⟨c, k', i, f, a, cell, v, by rw [hvm.findClass]; exact h1, hi', h3, by rw [he]; exact h4, h5, h6, h7, h8, by rw [he]; exact h9, h10⟩
def x_K (S : Nat × (Nat → Int32)) (w : xW) (s : State) : Prop :=
  (∀ (c : Nat) (q : vw_C), x_cl[c]? = some q → u_Kn s q.1 q.2.1 q.2.2 (w.2.2.2.2.1.1 c) (w.2.2.2.2.1.2 c)) ∧
  (∀ c, 100 ≤ c → c < 105 → ArrOfT s (w.2.2.2.2.2 c) (x_ty c) ∧ va_RA s (w.2.2.2.2.2 c) (x_ty c)) ∧
  (w.2.1 < w.1 ∧ w.2.2.1 < w.1 ∧ w.1 = w.2.2.2.1.size) ∧
  va_T .int w.2.1 x_rowsN (fun j => .int (x_rows j)) (fun q => w.1 ≤ q) s w.2.2.2.1 ∧ va_X w.2.2.1 S.1 S.2 s w.2.2.2.1 ∧ va_Z x_rowsC x_rowsF "[I" (.ref w.2.1) (fun q => w.1 ≤ q) s w.2.2.2.1 ∧
  x_SF "java/lang/Throwable" "UNASSIGNED_STACK" "[Ljava/lang/StackTraceElement;" s w.2.2.2.1 ∧ x_SF "java/lang/Throwable" "SUPPRESSED_SENTINEL" "Ljava/util/List;" s w.2.2.2.1 ∧ ∀ q ∈ x_NC, va_Nc q.1 q.2 s
def x_cw (k : Nat) : Cond := match mT k with
  | [] => .code (mY k) (mC k) (mL k) (mR k)
  | h => .codeWith (mY k) (mC k) (mL k) (mR k) h
/-- a method's standing: its code, the words, the room that its rank asks for -/
def x_C (S : Nat × (Nat → Int32)) (w : xW) (k : Nat) (p : Program) (e : Env) (R : Room) (s : State) (m : MethodId) (args : Array Value) (meth : Method) (c : Code) : Prop :=
  p.tables.exec = Jvm.exec ∧ c.code = mC k ∧ c.maxLocals = mL k ∧ meth.sig.returnType = mR k ∧ meth.locks = false ∧ s.vm.findClass (mY k).cls = some m.cls ∧ (∀ q ∈ x_Ts, q.before args s = true) ∧ x_K S w s ∧
  (mK k ≤ R.frames ∧ mW k ≤ R.locals) ∧ e.platform.stackTraces = false ∧ meth.name = (mY k).name ∧ c.exceptionTable.toList.map (fun h => (h.startPc, h.endPc, h.handlerPc, h.catchType)) = mT k ∧ ∃ (μ : xM) (n : Nat), x_R w μ n s.heap
def x_L (w : xW) (n nL : Nat) (L : List (Option Value)) (ls : Array Slot) : Prop :=
  ls.size = nL ∧ lv_wf ls ∧ L.length = nL ∧ ∀ (i : Nat) (v : Value), L[i]? = some (some v) → ls[i]? = some (.val (x_cv w v)) ∧ v.category = 1 ∧ x_ok n v
def x_sl : Nat → Nat
  | 0 => 0
  | n + 1 => x_sl n + (x_sh n).2
def x_rm (n cells slots : Nat) (R : Room) : Prop := n ≤ x_NM ∧ cells + (x_NM - n) ≤ R.cells ∧ slots + (x_sl x_NM - x_sl n) ≤ R.slots
def x_oc (w : xW) (s : State) (o : xO) (n : Nat) (t : State) (oc : Outcome) : Prop := match o with
  | .inl v => oc = .returned (v.map (x_cv w)) ∧ ∀ y, v = some y → x_ok n y
  | .inr x => oc = .threw (x_ad w (n - 1)) ∧ ∃ cell : Cell, t.heap[x_ad w (n - 1)]? = some cell ∧ cell.vm.isStatics = false ∧ s.vm.findClass (x_ex x) = some cell.cls
def x_F (w : xW) (R : Room) (s : State) (below : List Frame) (Q : xQ) (t : State) : Prop :=
  ∃ (o : xO) (μ : xM) (n : Nat) (oc : Outcome) (L : List Loc) (k z : Nat), Q o μ n ∧ t.status = .running ∧ Ended t below oc ∧ x_oc w s o n t oc ∧ x_R w μ n t.heap ∧ s.WarmedH t.vm ∧
    s.sameButNew ({ t with vm := s.vm } : State) L k z ∧ (∀ q ∈ L, w.1 ≤ q.base) ∧ x_rm n k z R
/-- what a walk knows at a point -/
def x_G (S : Nat × (Nat → Int32)) (w : xW) (k : Nat) (L : List (Option Value)) (st : List Value) (μ : xM) (n : Nat) (p : Program) (e : Env) (R : Room) (s : State) (m : MethodId) (args : Array Value) (meth : Method) (c : Code) (H : Heap) (locs : List Loc) (cells slots : Nat) (ls : Array Slot) : Prop :=
  x_C S w k p e R s m args meth c ∧ x_R w μ n H ∧ x_L w n (mL k) L ls ∧ (∀ v ∈ st, x_ok n v) ∧ (∀ q ∈ locs, w.1 ≤ q.base) ∧ x_rm n cells slots R
def x_V (S : Nat × (Nat → Int32)) (k pc : Nat) (L : List (Option Value)) (st : List Value) (μ : xM) (n : Nat) (Q : xQ) : Prop :=
  ∀ (w : xW) (p : Program) (l : Launch) (e : Env) (R : Room) (s : State) (m : MethodId) (args : Array Value) (below : List Frame) (meth : Method) (c : Code) (H : Heap) (locs : List Loc) (cells slots : Nat) (ls : Array Slot),
    x_G S w k L st μ n p e R s m args meth c H locs cells slots ls → W p l e R s m args below meth c H locs cells slots (x_F w R s below Q) (F0 m pc ls (st.map (x_cv w)))
end XD

section XB
theorem x_cv_int (w : xW) (x : Int32) : x_cv w (.int x) = .int x := rfl
theorem x_cv_cat (w : xW) (v : Value) : (x_cv w v).category = v.category := by cases v <;> rfl
theorem x_ok_int (n : Nat) (x : Int32) : x_ok n (.int x) := fun y h => by cases h
theorem x_ok_long (n : Nat) (x : Int64) : x_ok n (.long x) := fun y h => by cases h
theorem x_ok_null (n : Nat) : x_ok n .null := fun y h => by cases h
theorem x_ok_mono {n n' : Nat} {v : Value} (h : x_ok n v) (hn : n ≤ n') : x_ok n' v := fun y e => Nat.lt_of_lt_of_le (h y e) hn
theorem x_ad2 {w : xW} {j : Nat} (h : 2 ≤ j) : x_ad w j = w.1 + (j - 2) := by
  unfold x_ad
  rw [if_neg (by omega), if_neg (by omega)]
theorem x_sl_mono {a b : Nat} (h : a ≤ b) : x_sl a ≤ x_sl b := by
  induction b with
  | zero => rw [Nat.le_zero.mp h]; exact Nat.le_refl _
  | succ b ih =>
    rcases Nat.lt_or_ge a (b + 1) with h1 | h1
    · exact Nat.le_trans (ih (by omega)) (Nat.le_add_right _ _)
    · rw [show a = b + 1 by omega]; exact Nat.le_refl _
theorem x_L_mono {w : xW} {n n' nL : Nat} {L : List (Option Value)} {ls : Array Slot} (h : x_L w n nL L ls) (hn : n ≤ n') : x_L w n' nL L ls :=
  ⟨h.1, h.2.1, h.2.2.1, fun i v hv => ⟨(h.2.2.2 i v hv).1, (h.2.2.2 i v hv).2.1, x_ok_mono (h.2.2.2 i v hv).2.2 hn⟩⟩
def x_lv (w : xW) (L : List (Option Value)) : List (Nat × Value) := (List.range L.length).filterMap fun i => (L[i]?.getD none).map fun v => (i, x_cv w v)
theorem x_lv_in {w : xW} {L : List (Option Value)} {i : Nat} {v : Value} (h : L[i]? = some (some v)) : (i, x_cv w v) ∈ x_lv w L := by
  unfold x_lv
  refine List.mem_filterMap.mpr ⟨i, List.mem_range.mpr (List.getElem?_eq_some_iff.mp h).1, ?_⟩
  rw [h]; rfl
theorem x_lv_out {w : xW} {L : List (Option Value)} {q : Nat × Value} (h : q ∈ x_lv w L) : ∃ v, L[q.1]? = some (some v) ∧ q.2 = x_cv w v := by
  unfold x_lv at h
  obtain ⟨i, -, hi⟩ := List.mem_filterMap.mp h
  cases hL : L[i]? with
  | none => rw [hL] at hi; cases hi
  | some o =>
    cases o with
    | none => rw [hL] at hi; cases hi
    | some v =>
      rw [hL] at hi
      cases hi
      exact ⟨v, hL, rfl⟩
theorem x_L_has {w : xW} {n nL : Nat} {L : List (Option Value)} {ls : Array Slot} (h : x_L w n nL L ls) : lv_has ls nL (x_lv w L) := by
  refine ⟨h.1, h.2.1, fun q hq => ?_⟩
  obtain ⟨v, h1, h2⟩ := x_lv_out hq
  rw [h2]
  exact (h.2.2.2 _ _ h1).1
theorem x_L_set {w : xW} {n nL i : Nat} {L : List (Option Value)} {ls ls' : Array Slot} {v : Value} (h : x_L w n nL L ls) (hc : v.category = 1) (ho : x_ok n v)
    (h' : lv_has ls' nL ((i, x_cv w v) :: (x_lv w L).filter (fun q => !(q.1 == i) && !(q.1 + 1 == i && q.2.category == 2)))) : x_L w n nL (L.set i (some v)) ls' := by
  refine ⟨h'.1, h'.2.1, by rw [List.length_set]; exact h.2.2.1, fun j u hj => ?_⟩
  by_cases e : i = j
  · subst e
    rw [List.getElem?_set_self' ] at hj
    cases hL : L[i]? with
    | none => rw [hL] at hj; cases hj
    | some o =>
      rw [hL] at hj
      cases hj
      exact ⟨h'.2.2 _ List.mem_cons_self, hc, ho⟩
  · rw [List.getElem?_set_ne e] at hj
    obtain ⟨h1, h2, h3⟩ := h.2.2.2 j u hj
    refine ⟨h'.2.2 (j, x_cv w u) (List.mem_cons_of_mem _ (List.mem_filter.mpr ⟨x_lv_in hj, ?_⟩)), h2, h3⟩
    have e1 : (j == i) = false := by simpa using fun q => e q.symm
    have e2 : ((x_cv w u).category == 2) = false := by rw [x_cv_cat, h2]; rfl
    simp [e1, e2]
theorem x_sum (w : xW) (st : List Value) : ((st.map (x_cv w)).map fun v => v.category).sum ≤ 2 * st.length := by
  induction st with
  | nil => simp
  | cons v t ih =>
    have h : (x_cv w v).category ≤ 2 := by cases v <;> simp [x_cv, Value.category]
    simp only [List.map_cons, List.sum_cons, List.length_cons]
    omega
theorem x_rm_le {n cells slots : Nat} {R : Room} (h : x_rm n cells slots R) : n ≤ x_NM := h.1
end XB
