/-! 04.heap: rows that read and write cells, and make them. -/
section XH
/-- what a class of ours brings: its row in the table of classes, its fields' words, types and names -/
def x_CF (ci : Nat) (C : String) (T : u_T) (N : Nat) (ty : Nat → FieldType) : Prop :=
  x_cl[ci]? = some (C, T, N) ∧ (∀ q ∈ u_ws C T N, q ∈ x_Ts) ∧ (∀ k, k < N → parseFieldDescriptor (T k).2.2.1 = some (ty k)) ∧ (∀ a, a < N → ∀ b, b < N → a ≠ b → (T a).2.1 ≠ (T b).2.1) ∧ ci < 50 ∧ Cond.instantiable C N ∈ x_Ts ∧ Cond.initialized C ∈ x_Ts
theorem x_sh2 {j c N : Nat} (h : x_sh j = (c, N)) (hc : c ≠ 98) : 2 ≤ j := by
  rcases Nat.lt_or_ge j 2 with h1 | h1
  · exfalso
    have : x_sh j = (98, 0) := by
      rcases (show j = 0 ∨ j = 1 by omega) with e | e <;> rw [e] <;> rfl
    rw [this] at h
    cases h
    exact hc rfl
  · exact h1
theorem x_cell_kept {w : xW} {μ μ' : xM} {j : Nat} {H H' : Heap} (h : x_cell w μ j H) (hH : H'[x_ad w j]? = H[x_ad w j]?) (hμ : ∀ i, μ' j i = μ j i) : x_cell w μ' j H' := by
  have e : μ' j = μ j := funext hμ
  unfold x_cell at h ⊢
  rw [e]
  split at h
  · rename_i h1
    rw [if_pos h1]
    exact h.kept hH
  · rename_i h1
    rw [if_neg h1]
    split at h
    · rename_i h2
      rw [if_pos h2]
      obtain ⟨cell, h3, h4⟩ := h
      exact ⟨cell, hH.trans h3, h4⟩
    · rename_i h2
      rw [if_neg h2]
      exact hH.trans h
theorem x_ad_ne {w : xW} {i j : Nat} (hi : 2 ≤ i) (hj : 2 ≤ j) (h : i ≠ j) : x_ad w i ≠ x_ad w j := by
  rw [x_ad2 hi, x_ad2 hj]
  omega
theorem x_up_ne {μ : xM} {a i b : Nat} {v : Value} (h : b ≠ a) (j : Nat) : x_up μ a i v b j = μ b j := by
  unfold x_up
  rw [if_neg (fun e => h e.1)]
theorem x_R_set {w : xW} {μ : xM} {n a i : Nat} {v : Value} {H H' : Heap} (hR : x_R w μ n H) (ha2 : 2 ≤ a) (ha : a < n) (hv : x_ok n v) (hc : x_cell w (x_up μ a i v) a H') (z : H'.size = H.size) (o : ∀ q : Nat, q ≠ x_ad w a → H'[q]? = H[q]?) : x_R w (x_up μ a i v) n H' := by
  obtain ⟨h1, h2, h3, h4, h5⟩ := hR
  refine ⟨h1, z.trans h2, fun q hq => ?_, fun j hj2 hj => ?_, fun j y => ?_⟩
  · rw [o q (by rw [x_ad2 ha2]; omega)]
    exact h3 q hq
  · by_cases e : j = a
    · rw [e]; exact hc
    · exact x_cell_kept (h4 j hj2 hj) (o _ (x_ad_ne hj2 ha2 e)) (x_up_ne e)
  · unfold x_up
    split
    · exact hv
    · exact h5 j y
theorem x_R_new {w : xW} {μ μ' : xM} {n : Nat} {H H' : Heap} (hR : x_R w μ n H) (hμ : ∀ j i, j ≠ n → μ' j i = μ j i) (hv : ∀ i, x_ok (n + 1) (μ' n i)) (hc : x_cell w μ' n H') (z : H'.size = H.size + 1) (o : ∀ q : Nat, q < H.size → H'[q]? = H[q]?) : x_R w μ' (n + 1) H' := by
  obtain ⟨h1, h2, h3, h4, h5⟩ := hR
  refine ⟨by omega, by omega, fun q hq => ?_, fun j hj2 hj => ?_, fun j y => ?_⟩
  · rw [o q (by omega)]
    exact h3 q hq
  · by_cases e : j = n
    · rw [e]; exact hc
    · exact x_cell_kept (h4 j hj2 (by omega)) (o _ (by rw [x_ad2 hj2]; omega)) (fun i => hμ j i e)
  · by_cases e : j = n
    · rw [e]; exact hv y
    · rw [hμ j y e]; exact x_ok_mono (h5 j y) (by omega)
theorem x_obj {w : xW} {μ : xM} {n j ci N : Nat} {H : Heap} (hR : x_R w μ n H) (hj : j < n) (hs : x_sh j = (ci, N)) (hc : ci < 50) : t_OB (x_ad w j) (w.2.2.2.2.1.1 ci) N (w.2.2.2.2.1.2 ci) H (fun i => x_cv w (μ j i)) := by
  have h := hR.2.2.2.1 j (x_sh2 hs (by omega)) hj
  unfold x_cell at h
  rw [hs, if_pos hc] at h
  exact h
theorem x_arr {w : xW} {μ : xM} {n j ci N : Nat} {H : Heap} (hR : x_R w μ n H) (hj : j < n) (hs : x_sh j = (ci, N)) (hc : 100 ≤ ci) : H[x_ad w j]? = some (arrV (w.2.2.2.2.2 ci) N (fun i => x_cv w (μ j i))) := by
  have h := hR.2.2.2.1 j (x_sh2 hs (by omega)) hj
  unfold x_cell at h
  rw [hs, if_neg (show ¬ ci < 50 by omega), if_neg (show ¬ ci < 100 by omega)] at h
  exact h
theorem x_cell_obj {w : xW} {μ : xM} {j ci N : Nat} {H : Heap} (hs : x_sh j = (ci, N)) (hc : ci < 50) (h : t_OB (x_ad w j) (w.2.2.2.2.1.1 ci) N (w.2.2.2.2.1.2 ci) H (fun i => x_cv w (μ j i))) : x_cell w μ j H := by
  unfold x_cell
  rw [hs, if_pos hc]
  exact h
theorem x_cell_arr {w : xW} {μ : xM} {j ci N : Nat} {H : Heap} (hs : x_sh j = (ci, N)) (hc : 100 ≤ ci) (h : H[x_ad w j]? = some (arrV (w.2.2.2.2.2 ci) N (fun i => x_cv w (μ j i)))) : x_cell w μ j H := by
  unfold x_cell
  rw [hs, if_neg (show ¬ ci < 50 by omega), if_neg (show ¬ ci < 100 by omega)]
  exact h
theorem x_ok_self (n : Nat) : x_ok (n + 1) (.ref n) := fun x hx => by
  cases hx
  exact Nat.lt_succ_self n
theorem x_def_cv (w : xW) (t : FieldType) : x_cv w (defaultValue t) = defaultValue t := by cases t <;> rfl
theorem x_def_ok (n : Nat) (t : FieldType) : x_ok n (defaultValue t) := fun x h => by cases t <;> cases h
theorem x_arr_up {w : xW} {μ : xM} {a i N : Nat} {cA : ClassId} {v : Value} : (arrV cA N (fun j => x_cv w (μ a j))).setSlot i (x_cv w v) = arrV cA N (fun j => x_cv w (x_up μ a i v a j)) := by
  rw [arrV_store]
  congr 1
  funext q
  unfold updV x_up
  by_cases e : q = i
  · rw [if_pos e, if_pos ⟨rfl, e⟩]
  · rw [if_neg e, if_neg (fun h => e h.2)]
variable {S : Nat × (Nat → Int32)} {k pc : Nat} {L : List (Option Value)} {st : List Value} {μ : xM} {n : Nat} {Q : xQ}
theorem x_get {ci N i idx a : Nat} {C : String} {T : u_T} {ty : Nat → FieldType} (hF : x_CF ci C T N ty) (hd : decode (mC k) pc = .ok (.getfield idx, 3)) (hi : i < N) (hl : Cond.fieldLink (mY k).cls idx (T i).1 (T i).2.1 (T i).2.2.1 ∈ x_Ts) (hs : x_sh a = (ci, N)) (h : x_V S k (pc + 3) L (μ a i :: st) μ n Q) : x_V S k pc L (.ref a :: st) μ n Q := by
  intro w p l e R s m args below meth c H locs cells slots ls hG
  obtain ⟨hc, hin, hty, hnm, h50, -, -⟩ := hF
  obtain ⟨cell, q1, q2, q3, q4⟩ := x_obj hG.2.1 (x_hd hG.2.2.2.1 a rfl) hs h50
  obtain ⟨hS, hfc, kC, hkC, hkind⟩ := hG.1.2.2.2.2.2.2.2.1.1 ci _ hc
  obtain ⟨cf, kf, fi, f, hi', hsl⟩ := hS i hi
  have hts := hG.1.2.2.2.2.2.2.1
  refine W.getf hG.1.1 hG.1.2.1 hG.1.2.2.2.2.2.1 (hts _ hl) hi' (u_facts hfc hkC (u_lays hts hin hi) hi').1 q1 (by rw [q3]; exact fun h => by cases h) (v := x_cv w (μ a i)) (by rw [hsl]; exact q4 i hi) rfl rfl hd ?_
  exact h w p l e R s m args below meth c H locs cells slots ls ⟨hG.1, hG.2.1, hG.2.2.1, x_cs (hG.2.1.2.2.2.2 a i) (x_tl hG.2.2.2.1), hG.2.2.2.2⟩
theorem x_apart {w : xW} {s : State} {args : Array Value} {ci N : Nat} {C : String} {T : u_T} {ty : Nat → FieldType} (hF : x_CF ci C T N ty) (hts : ∀ q ∈ x_Ts, q.before args s = true) (hK : x_K S w s) : ∀ x y, x < N → y < N → x ≠ y → (w.2.2.2.2.1.2 ci) x ≠ (w.2.2.2.2.1.2 ci) y :=
  va_apart (own := C) (tys := []) hts hF.2.1 ty hF.2.2.1 hF.2.2.2.1 ⟨hK.1, fun k q h => by simp at h⟩ hF.1
theorem x_OB_up {w : xW} {μ : xM} {a i N cC slot : Nat} {iS : Nat → Nat} {H : Heap} {cell : Cell} {v : Value} (q1 : H[x_ad w a]? = some (cell.setSlot slot (x_cv w v))) (q2 : cell.cls = cC) (q3 : cell.vm = .none) (q4 : ∀ k, k < N → cell.slots[iS k]? = some (x_cv w (μ a k))) (hs : iS i = slot) (hap : ∀ x y, x < N → y < N → x ≠ y → iS x ≠ iS y) (hi : i < N) : t_OB (x_ad w a) cC N iS H (fun j => x_cv w (x_up μ a i v a j)) := by
  subst hs
  refine t_OB.to (V := updV (fun j => x_cv w (μ a j)) i (x_cv w v)) ⟨_, q1, q2, q3, t_set q4 hap hi _⟩ (fun j _ => ?_)
  unfold updV x_up
  by_cases e : j = i
  · rw [if_pos e, if_pos ⟨rfl, e⟩]
  · rw [if_neg e, if_neg (fun h => e h.2)]
theorem x_lo {w : xW} {locs : List Loc} {a i : Nat} (h : ∀ q ∈ locs, w.1 ≤ q.base) (ha : 2 ≤ a) : ∀ q ∈ locs ++ [⟨x_ad w a, i⟩], w.1 ≤ q.base := by
  intro q hq
  rcases List.mem_append.mp hq with h1 | h1
  · exact h q h1
  · rw [List.mem_singleton.mp h1]
    show w.1 ≤ x_ad w a
    rw [x_ad2 ha]
    omega
theorem x_put {ci N i idx a : Nat} {C : String} {T : u_T} {ty : Nat → FieldType} {v : Value} (hF : x_CF ci C T N ty) (hd : decode (mC k) pc = .ok (.putfield idx, 3)) (hi : i < N) (hfin : (T i).2.2.2 = false) (hl : Cond.fieldLink (mY k).cls idx (T i).1 (T i).2.1 (T i).2.2.1 ∈ x_Ts) (hs : x_sh a = (ci, N)) (hn : ∀ w, narrow (ty i) (x_cv w v) = x_cv w v ∧ fits (ty i) (x_cv w v) = true) (h : x_V S k (pc + 3) L st (x_up μ a i v) n Q) : x_V S k pc L (v :: .ref a :: st) μ n Q := by
  intro w p l e R s m args below meth c H locs cells slots ls hG
  have hts := hG.1.2.2.2.2.2.2.1
  have hap := x_apart (S := S) hF hts hG.1.2.2.2.2.2.2.2.1
  obtain ⟨hc, hin, hty, hnm, h50, -, -⟩ := hF
  have ha := x_hd (x_tl hG.2.2.2.1) a rfl
  have ha2 : 2 ≤ a := x_sh2 hs (by omega)
  obtain ⟨cell, q1, q2, q3, q4⟩ := x_obj hG.2.1 ha hs h50
  obtain ⟨hS, hfc, kC, hkC, hkind⟩ := hG.1.2.2.2.2.2.2.2.1.1 ci _ hc
  obtain ⟨cf, kf, fi, f, hi', hsl⟩ := hS i hi
  have hlay := hts _ (hin _ (u_in_lay hi))
  unfold u_lay at hlay
  rw [if_neg (by rw [hfin]; decide)] at hlay
  have hst := (u_facts hfc hkC (u_lays hts hin hi) hi').1
  have h6 := u_store hfc hkC hkind hlay hi' (hty i hi) (hn w).1 (hn w).2
  refine W.putK hG.1.1 hG.1.2.1 (f := f) ⟨hG.1.2.2.2.2.2.1, hts _ hl, ⟨_, _, _, hi'⟩, hst⟩ (by rw [q2]; exact h6) q1 q3 (by rw [hsl]; exact k2_hasslot (q4 i hi)) rfl rfl hd fun H' e1 e2 e3 => ?_
  refine h w p l e R s m args below meth c H' _ cells slots ls ⟨hG.1, x_R_set hG.2.1 ha2 ha (x_hd hG.2.2.2.1) ?_ e2 e3, hG.2.2.1, x_tl (x_tl hG.2.2.2.1), x_lo hG.2.2.2.2.1 ha2, hG.2.2.2.2.2⟩
  exact x_cell_obj hs h50 (x_OB_up e1 q2 q3 q4 hsl.symm hap hi)
theorem x_putF {ci N i idx a : Nat} {C : String} {T : u_T} {ty : Nat → FieldType} {v : Value} (hF : x_CF ci C T N ty) (hd : decode (mC k) pc = .ok (.putfield idx, 3)) (hi : i < N) (hfin : (T i).2.2.2 = true) (hini : (mY k).name = "<init>") (hdecl : (T i).1 = (mY k).cls) (hl : Cond.fieldLink (mY k).cls idx (T i).1 (T i).2.1 (T i).2.2.1 ∈ x_Ts) (hs : x_sh a = (ci, N)) (hn : ∀ w, narrow (ty i) (x_cv w v) = x_cv w v ∧ fits (ty i) (x_cv w v) = true) (h : x_V S k (pc + 3) L st (x_up μ a i v) n Q) : x_V S k pc L (v :: .ref a :: st) μ n Q := by
  intro w p l e R s m args below meth c H locs cells slots ls hG
  have hts := hG.1.2.2.2.2.2.2.1
  have hown := hG.1.2.2.2.2.2.1
  have hap := x_apart (S := S) hF hts hG.1.2.2.2.2.2.2.2.1
  obtain ⟨hc, hin, hty, hnm, h50, -, -⟩ := hF
  have ha := x_hd (x_tl hG.2.2.2.1) a rfl
  have ha2 : 2 ≤ a := x_sh2 hs (by omega)
  obtain ⟨cell, q1, q2, q3, q4⟩ := x_obj hG.2.1 ha hs h50
  obtain ⟨hS, hfc, kC, hkC, hkind⟩ := hG.1.2.2.2.2.2.2.2.1.1 ci _ hc
  obtain ⟨cf, kf, fi, f, hi', hsl⟩ := hS i hi
  have hlay := hts _ (hin _ (u_in_lay hi))
  unfold u_lay at hlay
  rw [if_pos hfin] at hlay
  have hst := (u_facts hfc hkC (u_lays hts hin hi) hi').1
  have hcf : m.cls = cf := by
    obtain ⟨_, _, c', _, _, _, -, -, hf', -, -, -, hown2, -⟩ := Cond.laysFinal_spec hlay
    have e1 : c' = cf := by have := hi'.symm.trans hf'; simp at this; exact this.1.symm
    rw [hdecl] at hown2
    rw [← e1]; exact Option.some.inj (hown.symm.trans hown2)
  have h6 := u_fits hfc hkC hkind (Or.inr hlay) hi' (hty i hi) (hn w).1 (hn w).2
  refine W.putFinK hG.1.1 hG.1.2.1 hown (hts _ hl) hi' hst hcf (hG.1.2.2.2.2.2.2.2.2.2.2.1.trans hini) (by rw [q2]; exact h6) q1 q3 (by rw [hsl]; exact k2_hasslot (q4 i hi)) rfl rfl hd fun H' e1 e2 e3 => ?_
  refine h w p l e R s m args below meth c H' _ cells slots ls ⟨hG.1, x_R_set hG.2.1 ha2 ha (x_hd hG.2.2.2.1) ?_ e2 e3, hG.2.2.1, x_tl (x_tl hG.2.2.2.1), x_lo hG.2.2.2.2.1 ha2, hG.2.2.2.2.2⟩
  exact x_cell_obj hs h50 (x_OB_up e1 q2 q3 q4 hsl.symm hap hi)
theorem x_tys : x_ty 100 = .int ∧ x_ty 101 = .boolean ∧ x_ty 102 = .long := ⟨rfl, rfl, rfl⟩
theorem x_hinV {cA : ClassId} {N : Nat} {f : Nat → Value} {i : Int32} (hi : vp_in i N) : ¬ (i < 0 ∨ (arrV cA N f).slots.size ≤ i.toNatClampNeg) := by
  rw [arrV_size]; exact hi
theorem x_inlt {N : Nat} {i : Int32} (hi : vp_in i N) : i.toNatClampNeg < N := Nat.not_le.mp fun q => hi (Or.inr q)
theorem x_iald {N a : Nat} {i : Int32} (hd : decode (mC k) pc = .ok (.iaload, 1)) (hs : x_sh a = (100, N)) (hi : vp_in i N) (h : x_V S k (pc + 1) L (μ a i.toNatClampNeg :: st) μ n Q) : x_V S k pc L (.int i :: .ref a :: st) μ n Q := by
  intro w p l e R s m args below meth c H locs cells slots ls hG
  have q1 := x_arr hG.2.1 (x_hd (x_tl hG.2.2.2.1) a rfl) hs (by omega)
  refine W.iald hG.1.1 hG.1.2.1 q1 ((hG.1.2.2.2.2.2.2.2.1.2.1 100 (by omega) (by omega)).1 N _) (fun q => by cases q) (x_hinV hi) (arrV_read _ _ (x_inlt hi)) rfl rfl hd ?_
  exact h w p l e R s m args below meth c H locs cells slots ls ⟨hG.1, hG.2.1, hG.2.2.1, x_cs (hG.2.1.2.2.2.2 a _) (x_tl (x_tl hG.2.2.2.1)), hG.2.2.2.2⟩
theorem x_zald {N a : Nat} {i : Int32} (hd : decode (mC k) pc = .ok (.baload, 1)) (hs : x_sh a = (101, N)) (hi : vp_in i N) (h : x_V S k (pc + 1) L (μ a i.toNatClampNeg :: st) μ n Q) : x_V S k pc L (.int i :: .ref a :: st) μ n Q := by
  intro w p l e R s m args below meth c H locs cells slots ls hG
  have q1 := x_arr hG.2.1 (x_hd (x_tl hG.2.2.2.1) a rfl) hs (by omega)
  refine W.zald hG.1.1 hG.1.2.1 q1 ((hG.1.2.2.2.2.2.2.2.1.2.1 101 (by omega) (by omega)).1 N _) (fun q => by cases q) (x_hinV hi) (arrV_read _ _ (x_inlt hi)) rfl rfl hd ?_
  exact h w p l e R s m args below meth c H locs cells slots ls ⟨hG.1, hG.2.1, hG.2.2.1, x_cs (hG.2.1.2.2.2.2 a _) (x_tl (x_tl hG.2.2.2.1)), hG.2.2.2.2⟩
theorem x_lald {N a : Nat} {i : Int32} (hd : decode (mC k) pc = .ok (.laload, 1)) (hs : x_sh a = (102, N)) (hi : vp_in i N) (h : x_V S k (pc + 1) L (μ a i.toNatClampNeg :: st) μ n Q) : x_V S k pc L (.int i :: .ref a :: st) μ n Q := by
  intro w p l e R s m args below meth c H locs cells slots ls hG
  have q1 := x_arr hG.2.1 (x_hd (x_tl hG.2.2.2.1) a rfl) hs (by omega)
  refine W.lald hG.1.1 hG.1.2.1 q1 ((hG.1.2.2.2.2.2.2.2.1.2.1 102 (by omega) (by omega)).1 N _) (fun q => by cases q) (x_hinV hi) (arrV_read _ _ (x_inlt hi)) rfl rfl hd ?_
  exact h w p l e R s m args below meth c H locs cells slots ls ⟨hG.1, hG.2.1, hG.2.2.1, x_cs (hG.2.1.2.2.2.2 a _) (x_tl (x_tl hG.2.2.2.1)), hG.2.2.2.2⟩
theorem x_aald {N a kd : Nat} {i : Int32} (hd : decode (mC k) pc = .ok (.aaload, 1)) (hs : x_sh a = (kd, N)) (hkd : kd = 103 ∨ kd = 104) (hi : vp_in i N) (h : x_V S k (pc + 1) L (μ a i.toNatClampNeg :: st) μ n Q) : x_V S k pc L (.int i :: .ref a :: st) μ n Q := by
  intro w p l e R s m args below meth c H locs cells slots ls hG
  have q1 := x_arr hG.2.1 (x_hd (x_tl hG.2.2.2.1) a rfl) hs (by omega)
  refine W.aald hG.1.1 hG.1.2.1 q1 ((hG.1.2.2.2.2.2.2.2.1.2.1 kd (by omega) (by omega)).1 N _) (by rcases hkd with e | e <;> rw [e] <;> rfl) (fun q => by cases q) (x_hinV hi) (arrV_read _ _ (x_inlt hi)) rfl rfl hd ?_
  exact h w p l e R s m args below meth c H locs cells slots ls ⟨hG.1, hG.2.1, hG.2.2.1, x_cs (hG.2.1.2.2.2.2 a _) (x_tl (x_tl hG.2.2.2.1)), hG.2.2.2.2⟩
theorem x_alen {N a kd : Nat} {v : Int32} (hd : decode (mC k) pc = .ok (.arraylength, 1)) (hs : x_sh a = (kd, N)) (hkd : 100 ≤ kd ∧ kd < 105) (hv : Int32.ofNat N = v) (h : x_V S k (pc + 1) L (.int v :: st) μ n Q) : x_V S k pc L (.ref a :: st) μ n Q := by
  intro w p l e R s m args below meth c H locs cells slots ls hG
  have q1 := x_arr hG.2.1 (x_hd hG.2.2.2.1 a rfl) hs hkd.1
  refine W.alen (n := v) hG.1.1 hG.1.2.1 q1 ((hG.1.2.2.2.2.2.2.2.1.2.1 kd hkd.1 hkd.2).1 N _) (by rw [arrV_size]; exact hv) rfl rfl hd ?_
  exact h w p l e R s m args below meth c H locs cells slots ls ⟨hG.1, hG.2.1, hG.2.2.1, x_cs (x_ok_int _ _) (x_tl hG.2.2.2.1), hG.2.2.2.2⟩
/-- the static table and the script: read, never written -/
theorem x_oldcell {w : xW} {H : Heap} {q : Nat} {cell : Cell} (hR : x_R w μ n H) (hq : q < w.1) (h : w.2.2.2.1[q]? = some cell) : H[q]? = some cell := (hR.2.2.1 q hq).trans h
theorem x_tald {i : Int32} (hd : decode (mC k) pc = .ok (.iaload, 1)) (hi : vp_in i x_rowsN) (h : x_V S k (pc + 1) L (.int (x_rows i.toNatClampNeg) :: st) μ n Q) : x_V S k pc L (.int i :: .ref 0 :: st) μ n Q := by
  intro w p l e R s m args below meth c H locs cells slots ls hG
  obtain ⟨-, -, ⟨hb1, -, -⟩, ⟨scr, h1, h2, h3, h4, h5, h6, -⟩, -⟩ := hG.1.2.2.2.2.2.2.2.1
  refine W.iald hG.1.1 hG.1.2.1 (x_oldcell hG.2.1 hb1 h1) h2 h3 (fun q => hi (q.imp id (fun z => Nat.le_trans h4 z))) (h6 _ (x_inlt hi)) rfl rfl hd ?_
  exact h w p l e R s m args below meth c H locs cells slots ls ⟨hG.1, hG.2.1, hG.2.2.1, x_cs (x_ok_int _ _) (x_tl (x_tl hG.2.2.2.1)), hG.2.2.2.2⟩
theorem x_tlen (hd : decode (mC k) pc = .ok (.arraylength, 1)) (h : x_V S k (pc + 1) L (.int (Int32.ofNat x_rowsN) :: st) μ n Q) : x_V S k pc L (.ref 0 :: st) μ n Q := by
  intro w p l e R s m args below meth c H locs cells slots ls hG
  obtain ⟨-, -, ⟨hb1, -, -⟩, ⟨scr, h1, h2, h3, h4, h5, h6, -⟩, -⟩ := hG.1.2.2.2.2.2.2.2.1
  refine W.alen (n := Int32.ofNat x_rowsN) hG.1.1 hG.1.2.1 (x_oldcell hG.2.1 hb1 h1) h2 h5 rfl rfl hd ?_
  exact h w p l e R s m args below meth c H locs cells slots ls ⟨hG.1, hG.2.1, hG.2.2.1, x_cs (x_ok_int _ _) (x_tl hG.2.2.2.1), hG.2.2.2.2⟩
theorem x_sald {i : Int32} (hd : decode (mC k) pc = .ok (.iaload, 1)) (hi : vp_in i S.1) (h : x_V S k (pc + 1) L (.int (S.2 i.toNatClampNeg) :: st) μ n Q) : x_V S k pc L (.int i :: .ref 1 :: st) μ n Q := by
  intro w p l e R s m args below meth c H locs cells slots ls hG
  obtain ⟨-, -, ⟨-, hb1, -⟩, -, ⟨scr, h1, h2, h3, h4, h5⟩, -⟩ := hG.1.2.2.2.2.2.2.2.1
  refine W.iald hG.1.1 hG.1.2.1 (x_oldcell hG.2.1 hb1 h1) h2 h3 (by rw [h4]; exact hi) (h5 _ (x_inlt hi)) rfl rfl hd ?_
  exact h w p l e R s m args below meth c H locs cells slots ls ⟨hG.1, hG.2.1, hG.2.2.1, x_cs (x_ok_int _ _) (x_tl (x_tl hG.2.2.2.1)), hG.2.2.2.2⟩
theorem x_slen (hd : decode (mC k) pc = .ok (.arraylength, 1)) (h : x_V S k (pc + 1) L (.int (Int32.ofNat S.1) :: st) μ n Q) : x_V S k pc L (.ref 1 :: st) μ n Q := by
  intro w p l e R s m args below meth c H locs cells slots ls hG
  obtain ⟨-, -, ⟨-, hb1, -⟩, -, ⟨scr, h1, h2, h3, h4, h5⟩, -⟩ := hG.1.2.2.2.2.2.2.2.1
  refine W.alen (n := Int32.ofNat S.1) hG.1.1 hG.1.2.1 (x_oldcell hG.2.1 hb1 h1) h2 (by rw [h4] <;> rfl) rfl rfl hd ?_
  exact h w p l e R s m args below meth c H locs cells slots ls ⟨hG.1, hG.2.1, hG.2.2.1, x_cs (x_ok_int _ _) (x_tl hG.2.2.2.1), hG.2.2.2.2⟩
theorem x_gets {idx : Nat} (hd : decode (mC k) pc = .ok (.getstatic idx, 3)) (hl : Cond.fieldLink (mY k).cls idx x_rowsC x_rowsF "[I" ∈ x_Ts) (h : x_V S k (pc + 3) L (.ref 0 :: st) μ n Q) : x_V S k pc L st μ n Q := by
  intro w p l e R s m args below meth c H locs cells slots ls hG
  obtain ⟨-, -, ⟨hb1, -, hsz⟩, -, -, ⟨cf, kf, fi, f, a, cell, h1, h2, h3, h4, h5, h6, h7, h8⟩, -⟩ := hG.1.2.2.2.2.2.2.2.1
  have ha : a < w.1 := Nat.not_le.mp h8
  refine W.gets hG.1.1 hG.1.2.1 hG.1.2.2.2.2.2.1 (hG.1.2.2.2.2.2.2.1 _ hl) h1 h2 h3 h4 (x_oldcell hG.2.1 ha h5) (fun e => by rw [e] at h6; cases h6) h7 rfl hd ?_
  exact h w p l e R s m args below meth c H locs cells slots ls ⟨hG.1, hG.2.1, hG.2.2.1, x_cs (fun x hx => by cases hx; exact Nat.lt_of_lt_of_le (by omega) hG.2.1.1) hG.2.2.2.1, hG.2.2.2.2⟩
/-- stores into arrays -/
theorem x_iast {N a : Nat} {i x : Int32} (hd : decode (mC k) pc = .ok (.iastore, 1)) (hs : x_sh a = (100, N)) (hi : vp_in i N) (h : x_V S k (pc + 1) L st (x_up μ a i.toNatClampNeg (.int x)) n Q) : x_V S k pc L (.int x :: .int i :: .ref a :: st) μ n Q := by
  intro w p l e R s m args below meth c H locs cells slots ls hG
  have ha := x_hd (x_tl (x_tl hG.2.2.2.1)) a rfl
  have ha2 : 2 ≤ a := x_sh2 hs (by omega)
  have q1 := x_arr hG.2.1 ha hs (by omega)
  refine W.iast hG.1.1 hG.1.2.1 q1 ((hG.1.2.2.2.2.2.2.2.1.2.1 100 (by omega) (by omega)).1 N _) (fun q => by cases q) (x_hinV hi) rfl rfl hd fun H' e1 e2 e3 => ?_
  exact h w p l e R s m args below meth c H' _ cells slots ls ⟨hG.1, x_R_set hG.2.1 ha2 ha (x_ok_int _ _) (x_cell_arr hs (by omega) (e1.trans (congrArg some (x_arr_up (v := .int x))))) e2 e3, hG.2.2.1, x_tl (x_tl (x_tl hG.2.2.2.1)), x_lo hG.2.2.2.2.1 ha2, hG.2.2.2.2.2⟩
theorem x_zast {N a : Nat} {i x : Int32} (hd : decode (mC k) pc = .ok (.bastore, 1)) (hs : x_sh a = (101, N)) (hi : vp_in i N) (hx : narrow .boolean (.int x) = .int x) (h : x_V S k (pc + 1) L st (x_up μ a i.toNatClampNeg (.int x)) n Q) : x_V S k pc L (.int x :: .int i :: .ref a :: st) μ n Q := by
  intro w p l e R s m args below meth c H locs cells slots ls hG
  have ha := x_hd (x_tl (x_tl hG.2.2.2.1)) a rfl
  have ha2 : 2 ≤ a := x_sh2 hs (by omega)
  have q1 := x_arr hG.2.1 ha hs (by omega)
  refine W.zast hG.1.1 hG.1.2.1 q1 ((hG.1.2.2.2.2.2.2.2.1.2.1 101 (by omega) (by omega)).1 N _) (fun q => by cases q) (x_hinV hi) rfl rfl hd fun H' e1 e2 e3 => ?_
  rw [hx] at e1
  exact h w p l e R s m args below meth c H' _ cells slots ls ⟨hG.1, x_R_set hG.2.1 ha2 ha (x_ok_int _ _) (x_cell_arr hs (by omega) (e1.trans (congrArg some (x_arr_up (v := .int x))))) e2 e3, hG.2.2.1, x_tl (x_tl (x_tl hG.2.2.2.1)), x_lo hG.2.2.2.2.1 ha2, hG.2.2.2.2.2⟩
theorem x_last {N a : Nat} {i : Int32} {x : Int64} (hd : decode (mC k) pc = .ok (.lastore, 1)) (hs : x_sh a = (102, N)) (hi : vp_in i N) (h : x_V S k (pc + 1) L st (x_up μ a i.toNatClampNeg (.long x)) n Q) : x_V S k pc L (.long x :: .int i :: .ref a :: st) μ n Q := by
  intro w p l e R s m args below meth c H locs cells slots ls hG
  have ha := x_hd (x_tl (x_tl hG.2.2.2.1)) a rfl
  have ha2 : 2 ≤ a := x_sh2 hs (by omega)
  have q1 := x_arr hG.2.1 ha hs (by omega)
  refine W.last hG.1.1 hG.1.2.1 q1 ((hG.1.2.2.2.2.2.2.2.1.2.1 102 (by omega) (by omega)).1 N _) (fun q => by cases q) (x_hinV hi) rfl rfl hd fun H' e1 e2 e3 => ?_
  exact h w p l e R s m args below meth c H' _ cells slots ls ⟨hG.1, x_R_set hG.2.1 ha2 ha (x_ok_long _ _) (x_cell_arr hs (by omega) (e1.trans (congrArg some (x_arr_up (v := .long x))))) e2 e3, hG.2.2.1, x_tl (x_tl (x_tl hG.2.2.2.1)), x_lo hG.2.2.2.2.1 ha2, hG.2.2.2.2.2⟩
theorem x_aast {N a o kd ci M : Nat} {i : Int32} {C : String} {T : u_T} {ty : Nat → FieldType} (hF : x_CF ci C T M ty) (hd : decode (mC k) pc = .ok (.aastore, 1)) (hs : x_sh a = (kd, N)) (hkd : kd = 103 ∨ kd = 104) (hty : x_ty kd = .object C) (ho : x_sh o = (ci, M)) (hi : vp_in i N) (h : x_V S k (pc + 1) L st (x_up μ a i.toNatClampNeg (.ref o)) n Q) : x_V S k pc L (.ref o :: .int i :: .ref a :: st) μ n Q := by
  intro w p l e R s m args below meth c H locs cells slots ls hG
  have ha := x_hd (x_tl (x_tl hG.2.2.2.1)) a rfl
  have ha2 : 2 ≤ a := x_sh2 hs (by omega)
  have q1 := x_arr hG.2.1 ha hs (by omega)
  obtain ⟨cell, c1, c2, c3, c4⟩ := x_obj hG.2.1 (x_hd hG.2.2.2.1 o rfl) ho hF.2.2.2.2.1
  obtain ⟨-, hat⟩ := hG.1.2.2.2.2.2.2.2.1.1 ci _ hF.1
  obtain ⟨hfc, kC, hkC, hkind⟩ := id hat
  have hRA := (hG.1.2.2.2.2.2.2.2.1.2.1 kd (by omega) (by omega)).2
  rw [hty] at hRA
  obtain ⟨kA, comp, r1, r2, r3, r4⟩ := hRA
  have hcomp : comp = w.2.2.2.2.1.1 ci := Option.some.inj (r3.symm.trans hfc)
  refine W.aast (k := kA) (kv := kC) (kcomp := kC) (comp := comp) (t := .object C) hG.1.1 hG.1.2.1 q1 (fun q e => by cases e) (fun q => by cases q) r1 r2 rfl (by rw [hcomp]; exact hkC) ⟨fun q => hi (Or.inl q), by rw [arrV_size]; exact x_inlt hi⟩ c1 (fun q e => by rw [c3] at e; cases e) (by rw [c2]; exact hkC) (by rw [c2, hcomp]; exact va_assign hat) rfl rfl hd fun H' e1 e2 e3 => ?_
  exact h w p l e R s m args below meth c H' _ cells slots ls ⟨hG.1, x_R_set hG.2.1 ha2 ha (x_hd hG.2.2.2.1) (x_cell_arr hs (by omega) (e1.trans (congrArg some (x_arr_up (v := .ref o))))) e2 e3, hG.2.2.1, x_tl (x_tl (x_tl hG.2.2.2.1)), x_lo hG.2.2.2.2.1 ha2, hG.2.2.2.2.2⟩
/-- making -/
theorem x_rm_new {cells slots N : Nat} {R : Room} (hrm : x_rm n cells slots R) (hn : n < x_NM) (hN : (x_sh n).2 = N) : cells + 1 ≤ R.cells ∧ slots + N ≤ R.slots ∧ x_rm (n + 1) (cells + 1) (slots + N) R := by
  obtain ⟨h1, h2, h3⟩ := hrm
  have h4 : x_sl (n + 1) ≤ x_sl x_NM := x_sl_mono hn
  have h5 : x_sl (n + 1) = x_sl n + N := by rw [← hN]; rfl
  refine ⟨by omega, by omega, by omega, by omega, by omega⟩
theorem x_new {ci N idx : Nat} {C : String} {T : u_T} {ty : Nat → FieldType} (hF : x_CF ci C T N ty) (hd : decode (mC k) pc = .ok (.new idx, 3)) (hl : Cond.classLink (mY k).cls idx C ∈ x_Ts) (hs : x_sh n = (ci, N)) (hn : n < x_NM) (h : x_V S k (pc + 3) L (.ref n :: st) (x_nw μ n (fun i => defaultValue (ty i))) (n + 1) Q) : x_V S k pc L st μ n Q := by
  intro w p l e R s m args below meth c H locs cells slots ls hG
  have hts := hG.1.2.2.2.2.2.2.1
  obtain ⟨hc, hin, hty, hnm, h50, hinst, hini⟩ := hF
  have hKn := hG.1.2.2.2.2.2.2.2.1.1 ci _ hc
  obtain ⟨r1, r2, r3⟩ := x_rm_new hG.2.2.2.2.2 hn (congrArg Prod.snd hs)
  have n2 : 2 ≤ n := hG.2.1.1
  have hsz : H.size = x_ad w n := by rw [x_ad2 n2]; exact hG.2.1.2.1
  refine W.newcK hG.1.1 hG.1.2.1 hG.1.2.2.2.2.2.1 (hts _ hl) (hts _ hinst) (hts _ hini) rfl hd r1 r2 hKn.2.1 hsz fun H' kC hkC e1 e2 e3 => ?_
  have hb := u_born ty hts hin hKn hkC e1 hty
  refine h w p l e R s m args below meth c H' locs _ _ ls ⟨hG.1, x_R_new hG.2.1 (fun j i hj => by unfold x_nw; rw [if_neg hj]) (fun i => by unfold x_nw; rw [if_pos rfl]; exact x_def_ok _ _) (x_cell_obj hs h50 (hb.to fun i _ => ?_)) (by omega) (fun q hq => e3 q (by omega)), x_L_mono hG.2.2.1 (by omega), x_cs (x_ok_self n) (fun u hu => x_ok_mono (hG.2.2.2.1 u hu) (by omega)), hG.2.2.2.2.1, r3⟩
  show defaultValue (ty i) = x_cv w (x_nw μ n (fun i => defaultValue (ty i)) n i)
  unfold x_nw
  rw [if_pos rfl, x_def_cv]
theorem x_newa {kd N : Nat} {atype : ArrayType} {i : Int32} (hd : decode (mC k) pc = .ok (.newarray atype, 2)) (hl : Cond.arrayClass (newarray.typeOf atype) ∈ x_Ts) (hty : x_ty kd = newarray.typeOf atype) (hkd : 100 ≤ kd ∧ kd < 103) (hs : x_sh n = (kd, N)) (hi : ¬ i < 0) (hN : i.toNatClampNeg = N) (hb : N * componentBytes (newarray.typeOf atype) ≤ 536870912) (hn : n < x_NM) (h : x_V S k (pc + 2) L (.ref n :: st) (x_nw μ n (fun _ => defaultValue (x_ty kd))) (n + 1) Q) : x_V S k pc L (.int i :: st) μ n Q := by
  intro w p l e R s m args below meth c H locs cells slots ls hG
  have hts := hG.1.2.2.2.2.2.2.1
  obtain ⟨r1, r2, r3⟩ := x_rm_new hG.2.2.2.2.2 hn (congrArg Prod.snd hs)
  have n2 : 2 ≤ n := hG.2.1.1
  have hsz : H.size = x_ad w n := by rw [x_ad2 n2]; exact hG.2.1.2.1
  refine va_newaK hG.1.1 hG.1.2.1 (hts _ hl) rfl hd rfl hi hN hb r1 r2 hsz fun H' cA e1 e2 e3 e4 e5 => ?_
  have hA : cA = w.2.2.2.2.2 kd := by
    have hRA := (hG.1.2.2.2.2.2.2.2.1.2.1 kd (by omega) (by omega)).2
    rw [hty] at hRA
    have h7 : s.vm.findClass ("[" ++ (newarray.typeOf atype).toString) = some (w.2.2.2.2.2 kd) := by cases atype <;> exact hRA
    exact Option.some.inj (e5.symm.trans h7)
  refine h w p l e R s m args below meth c H' locs _ _ ls ⟨hG.1, x_R_new hG.2.1 (fun j i hj => by unfold x_nw; rw [if_neg hj]) (fun i => by unfold x_nw; rw [if_pos rfl]; exact x_def_ok _ _) (x_cell_arr hs hkd.1 (e1.trans ?_)) (by omega) (fun q hq => e3 q (by omega)), x_L_mono hG.2.2.1 (by omega), x_cs (x_ok_self n) (fun u hu => x_ok_mono (x_tl hG.2.2.2.1 u hu) (by omega)), hG.2.2.2.2.1, r3⟩
  rw [hA, ← hty]
  congr 2
  funext q
  unfold x_nw
  rw [if_pos rfl, x_def_cv]
theorem x_anew {kd N idx : Nat} {i : Int32} {C : String} (hd : decode (mC k) pc = .ok (.anewarray idx, 3)) (hl : Cond.classLink (mY k).cls idx C ∈ x_Ts) (hl2 : Cond.arrayOver (.object C) ∈ x_Ts) (hty : x_ty kd = .object C) (hkd : 103 ≤ kd ∧ kd < 105) (hs : x_sh n = (kd, N)) (hi : ¬ i < 0) (hN : i.toNatClampNeg = N) (hb : N * 4 ≤ 536870912) (hn : n < x_NM) (h : x_V S k (pc + 3) L (.ref n :: st) (x_nw μ n (fun _ => .null)) (n + 1) Q) : x_V S k pc L (.int i :: st) μ n Q := by
  intro w p l e R s m args below meth c H locs cells slots ls hG
  have hts := hG.1.2.2.2.2.2.2.1
  obtain ⟨r1, r2, r3⟩ := x_rm_new hG.2.2.2.2.2 hn (congrArg Prod.snd hs)
  have n2 : 2 ≤ n := hG.2.1.1
  have hsz : H.size = x_ad w n := by rw [x_ad2 n2]; exact hG.2.1.2.1
  subst hN
  refine W.anew hG.1.1 hG.1.2.1 hG.1.2.2.2.2.2.1 (hts _ hl) (hts _ hl2) rfl hd rfl hi hb r1 r2 fun cA kA comp e1 e2 e3 e4 => ?_
  have hA : cA = w.2.2.2.2.2 kd := by
    have hRA := (hG.1.2.2.2.2.2.2.2.1.2.1 kd (by omega) (by omega)).2
    rw [hty] at hRA
    obtain ⟨kA', comp', r1, r2, r3, r4⟩ := hRA
    exact Option.some.inj (e1.symm.trans r4)
  rw [hsz]
  refine h w p l e R s m args below meth c _ locs _ _ ls ⟨hG.1, x_R_new hG.2.1 (fun j i hj => by unfold x_nw; rw [if_neg hj]) (fun i => by unfold x_nw; rw [if_pos rfl]; exact x_ok_null _) (x_cell_arr hs (by omega) ?_) (by simp) (fun q hq => by rw [Array.getElem?_push, if_neg (Nat.ne_of_lt hq)]), x_L_mono hG.2.2.1 (by omega), x_cs (x_ok_self n) (fun u hu => x_ok_mono (x_tl hG.2.2.2.1 u hu) (by omega)), hG.2.2.2.2.1, r3⟩
  rw [← hsz, arrV_new, hA]
  simp only [Array.getElem?_push, if_true]
  congr 2
  funext q
  unfold x_nw
  rw [if_pos rfl]
  rfl
theorem x_objInit {idx a : Nat} (hd : decode (mC k) pc = .ok (.invokespecial idx, 3)) (hl : Cond.methodLink (mY k).cls idx Lib.objectInit ∈ x_Ts) (hl2 : Cond.instanceMethod Lib.objectInit ∈ x_Ts) (hl3 : Cond.code Lib.objectInit ⟨#[0xb1]⟩ 1 none ∈ x_Ts) (hk : 1 ≤ mK k ∧ 20 ≤ mW k) (hst : st.length ≤ 4) (h : x_V S k (pc + 3) L st μ n Q) : x_V S k pc L (.ref a :: st) μ n Q := by
  intro w p l e R s m args below meth c H locs cells slots ls hG
  have hts := hG.1.2.2.2.2.2.2.1
  have hrm := hG.1.2.2.2.2.2.2.2.2.1
  refine W.objInit hG.1.1 hG.1.2.1 hG.1.2.2.2.2.2.1 (hts _ hl) (hts _ hl2) (hts _ hl3) rfl (hG.2.2.1.1.trans hG.1.2.2.1.symm) rfl hd (by omega) ?_ ?_
  · have := x_sum w st
    show 2 * 0 + _ + 12 ≤ R.locals
    omega
  · exact h w p l e R s m args below meth c H locs cells slots ls ⟨hG.1, hG.2.1, hG.2.2.1, x_tl hG.2.2.2.1, hG.2.2.2.2⟩
end XH
