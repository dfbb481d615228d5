/-! 17.start: from the law's entry into the small machine. -/
section XS
def lw_Q (_ : Array Value) (s : State) (o : Outcome) (t : State) : Prop := o = .returned (some (.int 1)) ∧ Framed s o t [] 601024 7293034
def lw_Z (below : List Frame) (a : Array Value) (s : State) : State → Prop := fun t => ∃ o, t.status = .running ∧ Ended t below o ∧ lw_Q a s o t
def lw_At (p : Program) (s : State) (m : MethodId) (meth : Method) (c : Code) (b L : Nat) (xs : Nat → Int32) : Prop :=
  p.tables.exec = Jvm.exec ∧ c.code = code ∧ meth.sig.returnType = ret ∧ c.maxLocals = 7 ∧ s.vm.findClass "TradeLinkLaw" = some m.cls ∧ (∀ w ∈ lw_tbl, w.before #[Value.ref b] s = true) ∧ va_X b L xs s s.heap ∧ b < s.heap.size ∧ meth.locks = false ∧ (Jvm.Cond.and given_1 narrow_1).before #[Value.ref b] s = true ∧ meth.name = "law" ∧ c.exceptionTable.toList = []
theorem x_rows_in : ∀ j, j < 60 → Cond.eq (.elem (.static "TradeLink$Layout" "ROWS" "[I") (.int (Int32.ofNat j))) (.int (x_rows j)) ∈ flatC (Jvm.Cond.and given_1 narrow_1) := by decide +kernel
theorem x_classes {args : Array Value} {s : State} (hts : ∀ q ∈ x_Ts, q.before args s = true) : ∀ c : Nat, ∃ (cC : ClassId) (iS : Nat → Nat), ∀ q : vw_C, x_cl[c]? = some q → u_Kn s q.1 q.2.1 q.2.2 cC iS := by
  intro c
  by_cases h : c < 10
  · rcases (show c = 0 ∨ c = 1 ∨ c = 2 ∨ c = 3 ∨ c = 4 ∨ c = 5 ∨ c = 6 ∨ c = 7 ∨ c = 8 ∨ c = 9 by omega) with rfl | rfl | rfl | rfl | rfl | rfl | rfl | rfl | rfl | rfl
    · obtain ⟨cC, iS, hk⟩ := u_known hts cf0.2.1 (hts _ cf0.2.2.2.2.2.1); exact ⟨cC, iS, fun q hq => by cases hq; exact hk⟩
    · obtain ⟨cC, iS, hk⟩ := u_known hts cf1.2.1 (hts _ cf1.2.2.2.2.2.1); exact ⟨cC, iS, fun q hq => by cases hq; exact hk⟩
    · obtain ⟨cC, iS, hk⟩ := u_known hts cf2.2.1 (hts _ cf2.2.2.2.2.2.1); exact ⟨cC, iS, fun q hq => by cases hq; exact hk⟩
    · obtain ⟨cC, iS, hk⟩ := u_known hts cf3.2.1 (hts _ cf3.2.2.2.2.2.1); exact ⟨cC, iS, fun q hq => by cases hq; exact hk⟩
    · obtain ⟨cC, iS, hk⟩ := u_known hts cf4.2.1 (hts _ cf4.2.2.2.2.2.1); exact ⟨cC, iS, fun q hq => by cases hq; exact hk⟩
    · obtain ⟨cC, iS, hk⟩ := u_known hts cf5.2.1 (hts _ cf5.2.2.2.2.2.1); exact ⟨cC, iS, fun q hq => by cases hq; exact hk⟩
    · obtain ⟨cC, iS, hk⟩ := u_known hts cf6.2.1 (hts _ cf6.2.2.2.2.2.1); exact ⟨cC, iS, fun q hq => by cases hq; exact hk⟩
    · obtain ⟨cC, iS, hk⟩ := u_known hts cf7.2.1 (hts _ cf7.2.2.2.2.2.1); exact ⟨cC, iS, fun q hq => by cases hq; exact hk⟩
    · obtain ⟨cC, iS, hk⟩ := u_known hts cf8.2.1 (hts _ cf8.2.2.2.2.2.1); exact ⟨cC, iS, fun q hq => by cases hq; exact hk⟩
    · obtain ⟨cC, iS, hk⟩ := u_known hts cf9.2.1 (hts _ cf9.2.2.2.2.2.1); exact ⟨cC, iS, fun q hq => by cases hq; exact hk⟩
  · refine ⟨0, fun _ => 0, fun q hq => ?_⟩
    have h1 := (List.getElem?_eq_some_iff.mp hq).1
    have h2 : x_cl.length = 10 := rfl
    omega
theorem x_arrP {args : Array Value} {s : State} {ty : FieldType} (hty : ∀ q, ty ≠ .object q) (h : (Cond.arrayClass ty).before args s = true) : ∃ cA : ClassId, ArrOfT s cA ty ∧ va_RA s cA ty := by
  obtain ⟨cA, kA, comp, h1, h2, h3⟩ := Cond.arrayClass_spec h
  refine ⟨cA, fun n z => ⟨(fun k h => by cases h), kA, h2, comp, h3⟩, ?_⟩
  unfold va_RA
  split
  · rename_i q
    exact absurd rfl (hty q)
  · exact h1
theorem x_arrO {args : Array Value} {s : State} {C : String} (h : (Cond.arrayOver (.object C)).before args s = true) : ∃ cA : ClassId, ArrOfT s cA (.object C) ∧ va_RA s cA (.object C) := by
  obtain ⟨comp, cA, kA, h1, -, h2, h3, h4⟩ := Cond.arrayOver_spec h
  exact ⟨cA, fun n z => ⟨(fun k h => by cases h), kA, h2, comp, h3⟩, kA, comp, h2, h3, h1, h4⟩
theorem x_arrays {args : Array Value} {s : State} (hts : ∀ q ∈ x_Ts, q.before args s = true) : ∀ c : Nat, ∃ cA : ClassId, 100 ≤ c → c < 105 → ArrOfT s cA (x_ty c) ∧ va_RA s cA (x_ty c) := by
  intro c
  by_cases h : 100 ≤ c ∧ c < 105
  · rcases (show c = 100 ∨ c = 101 ∨ c = 102 ∨ c = 103 ∨ c = 104 by omega) with rfl | rfl | rfl | rfl | rfl
    · obtain ⟨cA, hk⟩ := x_arrP (ty := .int) (fun q e => by cases e) (hts _ w50); exact ⟨cA, fun _ _ => hk⟩
    · obtain ⟨cA, hk⟩ := x_arrP (ty := .boolean) (fun q e => by cases e) (hts _ w813); exact ⟨cA, fun _ _ => hk⟩
    · obtain ⟨cA, hk⟩ := x_arrP (ty := .long) (fun q e => by cases e) (hts _ w989); exact ⟨cA, fun _ _ => hk⟩
    · obtain ⟨cA, hk⟩ := x_arrO (hts _ w99); exact ⟨cA, fun _ _ => hk⟩
    · obtain ⟨cA, hk⟩ := x_arrO (hts _ w121); exact ⟨cA, fun _ _ => hk⟩
  · exact ⟨0, fun h1 h2 => absurd ⟨h1, h2⟩ h⟩
set_option maxHeartbeats 1000000 in
theorem x_begin {p : Program} {e : Env} {s : State} {m : MethodId} {below : List Frame} {meth : Method} {c : Code} (l : Launch) (hfl : l.flags = flags0) {b L : Nat} {xs : Nat → Int32} (C0 : lw_At p s m meth c b L xs)
    (hV : x_V (L, xs) 138 0 (x_en 7 [.ref 1]) [] (fun _ _ => .null) 2 (fun o _ _ => o = .inl (some (.int 1)))) : W p l e room_1 s m #[Value.ref b] below meth c s.heap [] 0 0 (lw_Z below #[Value.ref b] s) (entryFrame m ([Value.ref b] : List Value).toArray 7) := by
  obtain ⟨hx, hcode, hret, hml, hown, hts, hX, hb, hlk, hgv, hnm, hexc⟩ := C0
  intro T hT X
  have htr : e.platform.stackTraces = false := by
    have h1 := X.admits.platform
    have h2 : l.stackTraces = false := by
      unfold Launch.stackTraces
      rw [hfl]
      decide +kernel
    rw [h1]
    exact h2
  have hts' : ∀ q ∈ x_Ts, q.before #[Value.ref b] s = true := fun q hq => hts q (List.mem_filter.mp hq).1
  have hs := flat_of_before _ hgv
  have hA : ∀ a : Nat, a < s.heap.size → ¬ (fun q => s.heap.size ≤ q) a := fun a h1 h2 => Nat.not_le.mpr h1 h2
  obtain ⟨t0, ht0, hT0⟩ := va_Tof (args := #[Value.ref b]) (s := s) (tm := .static "TradeLink$Layout" "ROWS" "[I") (ty := .int) (N := 60) (f := fun j => .int (x_rows j)) (A := fun q => s.heap.size ≤ q) (by decide) (hs _ (by decide +kernel))
    (va_eqt (z := Int32.ofNat 60) (hs _ (by decide +kernel))) (fun j hj => va_eqt (hs _ (x_rows_in j hj))) hA
  have hlr : (Cond.laysStatic "TradeLink$Layout" "ROWS" "[I").before #[Value.ref b] s = true := hts _ (List.mem_append_right _ (List.mem_of_getElem? (i := 301) (by decide +kernel)))
  have hl1 : (Cond.laysStatic "java/lang/Throwable" "UNASSIGNED_STACK" "[Ljava/lang/StackTraceElement;").before #[Value.ref b] s = true := hts _ (List.mem_append_right _ (List.mem_of_getElem? (i := 333) (by decide +kernel)))
  have hl2 : (Cond.laysStatic "java/lang/Throwable" "SUPPRESSED_SENTINEL" "Ljava/util/List;").before #[Value.ref b] s = true := hts _ (List.mem_append_right _ (List.mem_of_getElem? (i := 335) (by decide +kernel)))
  have hZ := va_Zof (A := fun q => s.heap.size ≤ q) hlr (hts' _ w11) ht0 hA
  have hF1 := x_SF_of hl1 (hs _ (by decide +kernel))
  have hF2 := x_SF_of hl2 (hs _ (by decide +kernel))
  have hNC : ∀ q ∈ x_NC, va_Nc q.1 q.2 s := by
    intro q hq
    simp only [x_NC, List.mem_cons, List.not_mem_nil, or_false] at hq
    rcases hq with rfl | rfl | rfl | rfl
    · exact va_Nc.of (hs _ (by decide +kernel))
    · exact va_Nc.of (hs _ (by decide +kernel))
    · exact va_Nc.of (hs _ (by decide +kernel))
    · exact va_Nc.of (hs _ (by decide +kernel))
  have hcl := x_classes hts'
  have har := x_arrays hts'
  let w : xW := (s.heap.size, t0, b, s.heap, (fun c => (hcl c).choose, fun c => (hcl c).choose_spec.choose), fun c => (har c).choose)
  have hK : x_K (L, xs) w s := ⟨fun c q hq => (hcl c).choose_spec.choose_spec q hq, fun c h1 h2 => (har c).choose_spec h1 h2, ⟨(Array.getElem?_eq_some_iff.mp hT0.choose_spec.1).1, hb, rfl⟩, hT0, hX, hZ, hF1, hF2, hNC⟩
  have hR : x_R w (fun _ _ => .null) 2 s.heap := ⟨Nat.le_refl _, rfl, fun q _ => rfl, fun j h1 h2 => absurd h1 (by omega), fun _ _ => x_ok_null _⟩
  have hC : x_C (L, xs) w 138 p e room_1 s m #[Value.ref b] meth c := ⟨hx, hcode, hml, hret, hlk, hown, hts', hK, ⟨by decide, by decide⟩, htr, hnm, by rw [hexc]; rfl, _, _, hR⟩
  have hrm : x_rm 2 0 0 room_1 := ⟨by decide, by decide, by decide +kernel⟩
  have hent : entryFrame m ([Value.ref b] : List Value).toArray 7 = F0 m 0 ((lg_sl ([Value.ref 1].map (x_cv w)) ++ List.replicate (7 - (lg_sl ([Value.ref 1].map (x_cv w))).length) Slot.unset).toArray) (([] : List Value).map (x_cv w)) := lg_entry_eq m [Value.ref b] 7
  have h1 : ∃ t, Steps p.tables e below (T.setTop (F0 m 0 ((lg_sl ([Value.ref 1].map (x_cv w)) ++ List.replicate (7 - (lg_sl ([Value.ref 1].map (x_cv w))).length) Slot.unset).toArray) (([] : List Value).map (x_cv w)))) t ∧ x_F w room_1 s below (fun o _ _ => o = .inl (some (.int 1))) t := hV w p l e room_1 s m #[Value.ref b] below meth c s.heap [] 0 0 _ ⟨hC, hR, x_L_entry (as := [.ref 1]) (fun v hv => by
    rw [List.mem_singleton.mp hv]
    exact ⟨fun x hx => by cases hx; exact Nat.lt_succ_self 1, rfl⟩) (by decide), (fun v hv => by cases hv), (fun q hq => by cases hq), hrm⟩ T hT X
  rw [← hent] at h1
  obtain ⟨t, ht, o, μ, n, oc, L', k, z, rfl, hrun, hend, ⟨rfl, -⟩, hR', hW, hsame, hL', hrm'⟩ := h1
  refine ⟨t, ht, _, hrun, hend, rfl, ⟨_, rfl⟩, hW, hsame.weaken (fun y hy hlt => absurd (hL' y hy) (Nat.not_le.mpr hlt)) (Nat.le_trans (Nat.le_add_right _ _) hrm'.2.1) (Nat.le_trans (Nat.le_add_right _ _) hrm'.2.2)⟩
end XS
