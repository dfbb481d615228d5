/-! 03.rows: a row an instruction (heap untouched). -/
section XR
variable {S : Nat × (Nat → Int32)} {k pc : Nat} {L : List (Option Value)} {st : List Value} {μ : xM} {n : Nat} {Q : xQ}
theorem x_tl {n : Nat} {v : Value} {st : List Value} (h : ∀ u ∈ v :: st, x_ok n u) : ∀ u ∈ st, x_ok n u := fun u hu => h u (List.mem_cons_of_mem _ hu)
theorem x_hd {n : Nat} {v : Value} {st : List Value} (h : ∀ u ∈ v :: st, x_ok n u) : x_ok n v := h v List.mem_cons_self
theorem x_cs {n : Nat} {v : Value} {st : List Value} (hv : x_ok n v) (h : ∀ u ∈ st, x_ok n u) : ∀ u ∈ v :: st, x_ok n u := fun u hu => by
  rcases List.mem_cons.mp hu with e | e
  · rw [e]; exact hv
  · exact h u e
/-- an instruction that moves the pc and the stack alone -/
theorem x_go {pc' : Nat} {st' : List Value} (hs : ∀ n, (∀ v ∈ st, x_ok n v) → ∀ v ∈ st', x_ok n v)
    (hw : ∀ (w : xW) (p : Program) (l : Launch) (e : Env) (R : Room) (s : State) (m : MethodId) (args : Array Value) (below : List Frame) (meth : Method) (c : Code) (H : Heap) (locs : List Loc) (cells slots : Nat) (ls : Array Slot) (P : State → Prop), p.tables.exec = Jvm.exec → c.code = mC k →
      W p l e R s m args below meth c H locs cells slots P (F0 m pc' ls (st'.map (x_cv w))) → W p l e R s m args below meth c H locs cells slots P (F0 m pc ls (st.map (x_cv w))))
    (h : x_V S k pc' L st' μ n Q) : x_V S k pc L st μ n Q := by
  intro w p l e R s m args below meth c H locs cells slots ls hG
  exact hw w p l e R s m args below meth c H locs cells slots ls _ hG.1.1 hG.1.2.1 (h w p l e R s m args below meth c H locs cells slots ls ⟨hG.1, hG.2.1, hG.2.2.1, hs n hG.2.2.2.1, hG.2.2.2.2⟩)
theorem x_iadd {x y : Int32} (hd : decode (mC k) pc = .ok (.iadd, 1)) (h : x_V S k (pc + 1) L (.int (x + y) :: st) μ n Q) : x_V S k pc L (.int y :: .int x :: st) μ n Q :=
  x_go (fun n hs => x_cs (x_ok_int _ _) (x_tl (x_tl hs))) (fun w p l e R s m args below meth c H locs cells slots ls P hx hb hk => lv_iadd hx hb hd hk) h
theorem x_isub {x y : Int32} (hd : decode (mC k) pc = .ok (.isub, 1)) (h : x_V S k (pc + 1) L (.int (x - y) :: st) μ n Q) : x_V S k pc L (.int y :: .int x :: st) μ n Q :=
  x_go (fun n hs => x_cs (x_ok_int _ _) (x_tl (x_tl hs))) (fun w p l e R s m args below meth c H locs cells slots ls P hx hb hk => lv_isub hx hb hd hk) h
theorem x_imul {x y : Int32} (hd : decode (mC k) pc = .ok (.imul, 1)) (h : x_V S k (pc + 1) L (.int (x * y) :: st) μ n Q) : x_V S k pc L (.int y :: .int x :: st) μ n Q :=
  x_go (fun n hs => x_cs (x_ok_int _ _) (x_tl (x_tl hs))) (fun w p l e R s m args below meth c H locs cells slots ls P hx hb hk => lv_imul hx hb hd hk) h
theorem x_iand {x y : Int32} (hd : decode (mC k) pc = .ok (.iand, 1)) (h : x_V S k (pc + 1) L (.int (x &&& y) :: st) μ n Q) : x_V S k pc L (.int y :: .int x :: st) μ n Q :=
  x_go (fun n hs => x_cs (x_ok_int _ _) (x_tl (x_tl hs))) (fun w p l e R s m args below meth c H locs cells slots ls P hx hb hk => lv_iand hx hb hd hk) h
theorem x_ior {x y : Int32} (hd : decode (mC k) pc = .ok (.ior, 1)) (h : x_V S k (pc + 1) L (.int (x ||| y) :: st) μ n Q) : x_V S k pc L (.int y :: .int x :: st) μ n Q :=
  x_go (fun n hs => x_cs (x_ok_int _ _) (x_tl (x_tl hs))) (fun w p l e R s m args below meth c H locs cells slots ls P hx hb hk => lv_ior hx hb hd hk) h
theorem x_ixor {x y : Int32} (hd : decode (mC k) pc = .ok (.ixor, 1)) (h : x_V S k (pc + 1) L (.int (x ^^^ y) :: st) μ n Q) : x_V S k pc L (.int y :: .int x :: st) μ n Q :=
  x_go (fun n hs => x_cs (x_ok_int _ _) (x_tl (x_tl hs))) (fun w p l e R s m args below meth c H locs cells slots ls P hx hb hk => lv_ixor hx hb hd hk) h
theorem x_idiv {x y : Int32} (hne : ¬ y = 0) (hd : decode (mC k) pc = .ok (.idiv, 1)) (h : x_V S k (pc + 1) L (.int (x / y) :: st) μ n Q) : x_V S k pc L (.int y :: .int x :: st) μ n Q :=
  x_go (fun n hs => x_cs (x_ok_int _ _) (x_tl (x_tl hs))) (fun w p l e R s m args below meth c H locs cells slots ls P hx hb hk => lv_idiv hx hb hd hne hk) h
theorem x_irem {x y : Int32} (hne : ¬ y = 0) (hd : decode (mC k) pc = .ok (.irem, 1)) (h : x_V S k (pc + 1) L (.int (x - x / y * y) :: st) μ n Q) : x_V S k pc L (.int y :: .int x :: st) μ n Q :=
  x_go (fun n hs => x_cs (x_ok_int _ _) (x_tl (x_tl hs))) (fun w p l e R s m args below meth c H locs cells slots ls P hx hb hk => lv_irem hx hb hd hne hk) h
theorem x_i2l {x : Int32} (hd : decode (mC k) pc = .ok (.i2l, 1)) (h : x_V S k (pc + 1) L (.long x.toInt64 :: st) μ n Q) : x_V S k pc L (.int x :: st) μ n Q :=
  x_go (fun n hs => x_cs (x_ok_long _ _) (x_tl hs)) (fun w p l e R s m args below meth c H locs cells slots ls P hx hb hk => lv_i2l hx hb hd rfl hk) h
theorem x_lcmp {x y : Int64} (hd : decode (mC k) pc = .ok (.lcmp, 1)) (h : x_V S k (pc + 1) L (.int (lg_cmp x y) :: st) μ n Q) : x_V S k pc L (.long y :: .long x :: st) μ n Q :=
  x_go (fun n hs => x_cs (x_ok_int _ _) (x_tl (x_tl hs))) (fun w p l e R s m args below meth c H locs cells slots ls P hx hb hk => W.lcmp hx hb hd hk) h
theorem x_iconst {z : Int} {v : Int32} (hv : Int32.ofInt z = v) (hd : decode (mC k) pc = .ok (.iconst z, 1)) (h : x_V S k (pc + 1) L (.int v :: st) μ n Q) : x_V S k pc L (st) μ n Q :=
  x_go (fun n hs => x_cs (x_ok_int _ _) hs) (fun w p l e R s m args below meth c H locs cells slots ls P hx hb hk => lv_iconst hx hb hd hv hk) h
theorem x_bipush {z : Int} {v : Int32} (hv : (Int8.ofInt z).toInt32 = v) (hd : decode (mC k) pc = .ok (.bipush z, 2)) (h : x_V S k (pc + 2) L (.int v :: st) μ n Q) : x_V S k pc L (st) μ n Q :=
  x_go (fun n hs => x_cs (x_ok_int _ _) hs) (fun w p l e R s m args below meth c H locs cells slots ls P hx hb hk => lv_bipush hx hb hd hv hk) h
theorem x_sipush {z : Int} {v : Int32} (hv : (Int16.ofInt z).toInt32 = v) (hd : decode (mC k) pc = .ok (.sipush z, 3)) (h : x_V S k (pc + 3) L (.int v :: st) μ n Q) : x_V S k pc L (st) μ n Q :=
  x_go (fun n hs => x_cs (x_ok_int _ _) hs) (fun w p l e R s m args below meth c H locs cells slots ls P hx hb hk => lv_sipush hx hb hd hv hk) h
theorem x_null  (hd : decode (mC k) pc = .ok (.aconst_null, 1)) (h : x_V S k (pc + 1) L (.null :: st) μ n Q) : x_V S k pc L (st) μ n Q :=
  x_go (fun n hs => x_cs (x_ok_null _) hs) (fun w p l e R s m args below meth c H locs cells slots ls P hx hb hk => lv_null hx hb hd hk) h
theorem x_dup {v : Value} (hc : v.category = 1) (hd : decode (mC k) pc = .ok (.dup, 1)) (h : x_V S k (pc + 1) L (v :: v :: st) μ n Q) : x_V S k pc L (v :: st) μ n Q :=
  x_go (fun n hs => x_cs (x_hd hs) hs) (fun w p l e R s m args below meth c H locs cells slots ls P hx hb hk => lv_dup hx hb hd (by rw [x_cv_cat]; exact hc) hk) h
theorem x_pop {v : Value} (hc : v.category = 1) (hd : decode (mC k) pc = .ok (.pop, 1)) (h : x_V S k (pc + 1) L (st) μ n Q) : x_V S k pc L (v :: st) μ n Q :=
  x_go (fun n hs => x_tl hs) (fun w p l e R s m args below meth c H locs cells slots ls P hx hb hk => lv_pop hx hb hd (by rw [x_cv_cat]; exact hc) hk) h
theorem x_dup_x1 {v u : Value} (hc : v.category = 1) (hu : u.category = 1) (hd : decode (mC k) pc = .ok (.dup_x1, 1)) (h : x_V S k (pc + 1) L (v :: u :: v :: st) μ n Q) : x_V S k pc L (v :: u :: st) μ n Q :=
  x_go (fun n hs => x_cs (x_hd hs) (x_cs (x_hd (x_tl hs)) (x_cs (x_hd hs) (x_tl (x_tl hs))))) (fun w p l e R s m args below meth c H locs cells slots ls P hx hb hk => lv_dup_x1 hx hb hd (by rw [x_cv_cat]; exact hc) (by rw [x_cv_cat]; exact hu) hk) h
theorem x_dup2 {v u : Value} (hc : v.category = 1) (hu : u.category = 1) (hd : decode (mC k) pc = .ok (.dup2, 1)) (h : x_V S k (pc + 1) L (v :: u :: v :: u :: st) μ n Q) : x_V S k pc L (v :: u :: st) μ n Q :=
  x_go (fun n hs => x_cs (x_hd hs) (x_cs (x_hd (x_tl hs)) hs)) (fun w p l e R s m args below meth c H locs cells slots ls P hx hb hk => lv_dup2_11 hx hb hd (by rw [x_cv_cat]; exact hc) (by rw [x_cv_cat]; exact hu) hk) h
theorem x_goto {off : Int} {tgt : Nat} (ht : (pc : Int) + off = (tgt : Int)) (hd : decode (mC k) pc = .ok (.goto off, 3)) (h : x_V S k tgt L (st) μ n Q) : x_V S k pc L (st) μ n Q :=
  x_go (fun n hs => hs) (fun w p l e R s m args below meth c H locs cells slots ls P hx hb hk => lv_goto hx hb hd ht hk) h
theorem x_ifnull_y {off : Int} {tgt : Nat} (ht : (pc : Int) + off = (tgt : Int)) (hd : decode (mC k) pc = .ok (.ifnull off, 3)) (h : x_V S k tgt L (st) μ n Q) : x_V S k pc L (.null :: st) μ n Q :=
  x_go (fun n hs => x_tl hs) (fun w p l e R s m args below meth c H locs cells slots ls P hx hb hk => lv_ifnullN hx hb hd ht hk) h
theorem x_ifnull_n {off : Int} {a : Nat} (hd : decode (mC k) pc = .ok (.ifnull off, 3)) (h : x_V S k (pc + 3) L (st) μ n Q) : x_V S k pc L (.ref a :: st) μ n Q :=
  x_go (fun n hs => x_tl hs) (fun w p l e R s m args below meth c H locs cells slots ls P hx hb hk => lv_ifnull hx hb hd hk) h
theorem x_ifnonnull_n {off : Int} (hd : decode (mC k) pc = .ok (.ifnonnull off, 3)) (h : x_V S k (pc + 3) L (st) μ n Q) : x_V S k pc L (.null :: st) μ n Q :=
  x_go (fun n hs => x_tl hs) (fun w p l e R s m args below meth c H locs cells slots ls P hx hb hk => lv_ifnonnullN hx hb hd hk) h
theorem x_ifnonnull_y {off : Int} {tgt a : Nat} (ht : (pc : Int) + off = (tgt : Int)) (hd : decode (mC k) pc = .ok (.ifnonnull off, 3)) (h : x_V S k tgt L (st) μ n Q) : x_V S k pc L (.ref a :: st) μ n Q :=
  x_go (fun n hs => x_tl hs) (fun w p l e R s m args below meth c H locs cells slots ls P hx hb hk => lv_ifnonnull hx hb hd ht hk) h
theorem x_tableOut {dflt lo hi : Int} {offs : Array Int} {len tgt : Nat} {x : Int32} (hc : x.toInt < lo ∨ hi < x.toInt) (ht : (pc : Int) + dflt = (tgt : Int)) (hd : decode (mC k) pc = .ok (.tableswitch dflt lo hi offs, len)) (h : x_V S k tgt L (st) μ n Q) : x_V S k pc L (.int x :: st) μ n Q :=
  x_go (fun n hs => x_tl hs) (fun w p l e R s m args below meth c H locs cells slots ls P hx hb hk => lv_tableOut hx hb hd hc ht hk) h
theorem x_tableIn {dflt lo hi off : Int} {offs : Array Int} {len tgt : Nat} {x : Int32} (h1 : ¬ x.toInt < lo) (h2 : ¬ hi < x.toInt) (ho : offs[(x.toInt - lo).toNat]? = some off) (ht : (pc : Int) + off = (tgt : Int)) (hd : decode (mC k) pc = .ok (.tableswitch dflt lo hi offs, len)) (h : x_V S k tgt L (st) μ n Q) : x_V S k pc L (.int x :: st) μ n Q :=
  x_go (fun n hs => x_tl hs) (fun w p l e R s m args below meth c H locs cells slots ls P hx hb hk => lv_tableIn hx hb hd h1 h2 ho ht hk) h
theorem x_lookup {dflt off : Int} {ps : Array (Int × Int)} {len tgt : Nat} {x : Int32} (hp : (ps.toList.zip (ps.toList.drop 1)).all (fun (a, next) => a.1 < next.1) = true) (ho : Op.lookupswitch.offset ps.toList dflt x.toInt = off) (ht : (pc : Int) + off = (tgt : Int)) (hd : decode (mC k) pc = .ok (.lookupswitch dflt ps, len)) (h : x_V S k tgt L (st) μ n Q) : x_V S k pc L (.int x :: st) μ n Q :=
  x_go (fun n hs => x_tl hs) (fun w p l e R s m args below meth c H locs cells slots ls P hx hb hk => lv_lookup hx hb hd hp ho ht hk) h
theorem x_if_eq {x : Int32} {off : Int} {tgt : Nat} (hd : decode (mC k) pc = .ok (.ifCond .eq off, 3)) (ht : (pc : Int) + off = (tgt : Int)) (kt : x = 0 → x_V S k tgt L st μ n Q) (kf : ¬ x = 0 → x_V S k (pc + 3) L st μ n Q) : x_V S k pc L (.int x :: st) μ n Q := by
  intro w p l e R s m args below meth c H locs cells slots ls hG
  exact lv_if_eq hG.1.1 hG.1.2.1 hd ht (fun h => kt h w p l e R s m args below meth c H locs cells slots ls ⟨hG.1, hG.2.1, hG.2.2.1, x_tl hG.2.2.2.1, hG.2.2.2.2⟩) (fun h => kf h w p l e R s m args below meth c H locs cells slots ls ⟨hG.1, hG.2.1, hG.2.2.1, x_tl hG.2.2.2.1, hG.2.2.2.2⟩)
theorem x_icmp_eq {x y : Int32} {off : Int} {tgt : Nat} (hd : decode (mC k) pc = .ok (.if_icmp .eq off, 3)) (ht : (pc : Int) + off = (tgt : Int)) (kt : x = y → x_V S k tgt L st μ n Q) (kf : ¬ x = y → x_V S k (pc + 3) L st μ n Q) : x_V S k pc L (.int y :: .int x :: st) μ n Q := by
  intro w p l e R s m args below meth c H locs cells slots ls hG
  exact lv_icmp_eq hG.1.1 hG.1.2.1 hd ht (fun h => kt h w p l e R s m args below meth c H locs cells slots ls ⟨hG.1, hG.2.1, hG.2.2.1, x_tl (x_tl hG.2.2.2.1), hG.2.2.2.2⟩) (fun h => kf h w p l e R s m args below meth c H locs cells slots ls ⟨hG.1, hG.2.1, hG.2.2.1, x_tl (x_tl hG.2.2.2.1), hG.2.2.2.2⟩)
theorem x_if_ne {x : Int32} {off : Int} {tgt : Nat} (hd : decode (mC k) pc = .ok (.ifCond .ne off, 3)) (ht : (pc : Int) + off = (tgt : Int)) (kt : ¬ x = 0 → x_V S k tgt L st μ n Q) (kf : x = 0 → x_V S k (pc + 3) L st μ n Q) : x_V S k pc L (.int x :: st) μ n Q := by
  intro w p l e R s m args below meth c H locs cells slots ls hG
  exact lv_if_ne hG.1.1 hG.1.2.1 hd ht (fun h => kt h w p l e R s m args below meth c H locs cells slots ls ⟨hG.1, hG.2.1, hG.2.2.1, x_tl hG.2.2.2.1, hG.2.2.2.2⟩) (fun h => kf h w p l e R s m args below meth c H locs cells slots ls ⟨hG.1, hG.2.1, hG.2.2.1, x_tl hG.2.2.2.1, hG.2.2.2.2⟩)
theorem x_icmp_ne {x y : Int32} {off : Int} {tgt : Nat} (hd : decode (mC k) pc = .ok (.if_icmp .ne off, 3)) (ht : (pc : Int) + off = (tgt : Int)) (kt : ¬ x = y → x_V S k tgt L st μ n Q) (kf : x = y → x_V S k (pc + 3) L st μ n Q) : x_V S k pc L (.int y :: .int x :: st) μ n Q := by
  intro w p l e R s m args below meth c H locs cells slots ls hG
  exact lv_icmp_ne hG.1.1 hG.1.2.1 hd ht (fun h => kt h w p l e R s m args below meth c H locs cells slots ls ⟨hG.1, hG.2.1, hG.2.2.1, x_tl (x_tl hG.2.2.2.1), hG.2.2.2.2⟩) (fun h => kf h w p l e R s m args below meth c H locs cells slots ls ⟨hG.1, hG.2.1, hG.2.2.1, x_tl (x_tl hG.2.2.2.1), hG.2.2.2.2⟩)
theorem x_if_lt {x : Int32} {off : Int} {tgt : Nat} (hd : decode (mC k) pc = .ok (.ifCond .lt off, 3)) (ht : (pc : Int) + off = (tgt : Int)) (kt : x < 0 → x_V S k tgt L st μ n Q) (kf : ¬ x < 0 → x_V S k (pc + 3) L st μ n Q) : x_V S k pc L (.int x :: st) μ n Q := by
  intro w p l e R s m args below meth c H locs cells slots ls hG
  exact lv_if_lt hG.1.1 hG.1.2.1 hd ht (fun h => kt h w p l e R s m args below meth c H locs cells slots ls ⟨hG.1, hG.2.1, hG.2.2.1, x_tl hG.2.2.2.1, hG.2.2.2.2⟩) (fun h => kf h w p l e R s m args below meth c H locs cells slots ls ⟨hG.1, hG.2.1, hG.2.2.1, x_tl hG.2.2.2.1, hG.2.2.2.2⟩)
theorem x_icmp_lt {x y : Int32} {off : Int} {tgt : Nat} (hd : decode (mC k) pc = .ok (.if_icmp .lt off, 3)) (ht : (pc : Int) + off = (tgt : Int)) (kt : x < y → x_V S k tgt L st μ n Q) (kf : ¬ x < y → x_V S k (pc + 3) L st μ n Q) : x_V S k pc L (.int y :: .int x :: st) μ n Q := by
  intro w p l e R s m args below meth c H locs cells slots ls hG
  exact lv_icmp_lt hG.1.1 hG.1.2.1 hd ht (fun h => kt h w p l e R s m args below meth c H locs cells slots ls ⟨hG.1, hG.2.1, hG.2.2.1, x_tl (x_tl hG.2.2.2.1), hG.2.2.2.2⟩) (fun h => kf h w p l e R s m args below meth c H locs cells slots ls ⟨hG.1, hG.2.1, hG.2.2.1, x_tl (x_tl hG.2.2.2.1), hG.2.2.2.2⟩)
theorem x_if_ge {x : Int32} {off : Int} {tgt : Nat} (hd : decode (mC k) pc = .ok (.ifCond .ge off, 3)) (ht : (pc : Int) + off = (tgt : Int)) (kt : 0 ≤ x → x_V S k tgt L st μ n Q) (kf : ¬ 0 ≤ x → x_V S k (pc + 3) L st μ n Q) : x_V S k pc L (.int x :: st) μ n Q := by
  intro w p l e R s m args below meth c H locs cells slots ls hG
  exact lv_if_ge hG.1.1 hG.1.2.1 hd ht (fun h => kt h w p l e R s m args below meth c H locs cells slots ls ⟨hG.1, hG.2.1, hG.2.2.1, x_tl hG.2.2.2.1, hG.2.2.2.2⟩) (fun h => kf h w p l e R s m args below meth c H locs cells slots ls ⟨hG.1, hG.2.1, hG.2.2.1, x_tl hG.2.2.2.1, hG.2.2.2.2⟩)
theorem x_icmp_ge {x y : Int32} {off : Int} {tgt : Nat} (hd : decode (mC k) pc = .ok (.if_icmp .ge off, 3)) (ht : (pc : Int) + off = (tgt : Int)) (kt : y ≤ x → x_V S k tgt L st μ n Q) (kf : ¬ y ≤ x → x_V S k (pc + 3) L st μ n Q) : x_V S k pc L (.int y :: .int x :: st) μ n Q := by
  intro w p l e R s m args below meth c H locs cells slots ls hG
  exact lv_icmp_ge hG.1.1 hG.1.2.1 hd ht (fun h => kt h w p l e R s m args below meth c H locs cells slots ls ⟨hG.1, hG.2.1, hG.2.2.1, x_tl (x_tl hG.2.2.2.1), hG.2.2.2.2⟩) (fun h => kf h w p l e R s m args below meth c H locs cells slots ls ⟨hG.1, hG.2.1, hG.2.2.1, x_tl (x_tl hG.2.2.2.1), hG.2.2.2.2⟩)
theorem x_if_gt {x : Int32} {off : Int} {tgt : Nat} (hd : decode (mC k) pc = .ok (.ifCond .gt off, 3)) (ht : (pc : Int) + off = (tgt : Int)) (kt : 0 < x → x_V S k tgt L st μ n Q) (kf : ¬ 0 < x → x_V S k (pc + 3) L st μ n Q) : x_V S k pc L (.int x :: st) μ n Q := by
  intro w p l e R s m args below meth c H locs cells slots ls hG
  exact lv_if_gt hG.1.1 hG.1.2.1 hd ht (fun h => kt h w p l e R s m args below meth c H locs cells slots ls ⟨hG.1, hG.2.1, hG.2.2.1, x_tl hG.2.2.2.1, hG.2.2.2.2⟩) (fun h => kf h w p l e R s m args below meth c H locs cells slots ls ⟨hG.1, hG.2.1, hG.2.2.1, x_tl hG.2.2.2.1, hG.2.2.2.2⟩)
theorem x_icmp_gt {x y : Int32} {off : Int} {tgt : Nat} (hd : decode (mC k) pc = .ok (.if_icmp .gt off, 3)) (ht : (pc : Int) + off = (tgt : Int)) (kt : y < x → x_V S k tgt L st μ n Q) (kf : ¬ y < x → x_V S k (pc + 3) L st μ n Q) : x_V S k pc L (.int y :: .int x :: st) μ n Q := by
  intro w p l e R s m args below meth c H locs cells slots ls hG
  exact lv_icmp_gt hG.1.1 hG.1.2.1 hd ht (fun h => kt h w p l e R s m args below meth c H locs cells slots ls ⟨hG.1, hG.2.1, hG.2.2.1, x_tl (x_tl hG.2.2.2.1), hG.2.2.2.2⟩) (fun h => kf h w p l e R s m args below meth c H locs cells slots ls ⟨hG.1, hG.2.1, hG.2.2.1, x_tl (x_tl hG.2.2.2.1), hG.2.2.2.2⟩)
theorem x_if_le {x : Int32} {off : Int} {tgt : Nat} (hd : decode (mC k) pc = .ok (.ifCond .le off, 3)) (ht : (pc : Int) + off = (tgt : Int)) (kt : x ≤ 0 → x_V S k tgt L st μ n Q) (kf : ¬ x ≤ 0 → x_V S k (pc + 3) L st μ n Q) : x_V S k pc L (.int x :: st) μ n Q := by
  intro w p l e R s m args below meth c H locs cells slots ls hG
  exact lv_if_le hG.1.1 hG.1.2.1 hd ht (fun h => kt h w p l e R s m args below meth c H locs cells slots ls ⟨hG.1, hG.2.1, hG.2.2.1, x_tl hG.2.2.2.1, hG.2.2.2.2⟩) (fun h => kf h w p l e R s m args below meth c H locs cells slots ls ⟨hG.1, hG.2.1, hG.2.2.1, x_tl hG.2.2.2.1, hG.2.2.2.2⟩)
theorem x_icmp_le {x y : Int32} {off : Int} {tgt : Nat} (hd : decode (mC k) pc = .ok (.if_icmp .le off, 3)) (ht : (pc : Int) + off = (tgt : Int)) (kt : x ≤ y → x_V S k tgt L st μ n Q) (kf : ¬ x ≤ y → x_V S k (pc + 3) L st μ n Q) : x_V S k pc L (.int y :: .int x :: st) μ n Q := by
  intro w p l e R s m args below meth c H locs cells slots ls hG
  exact lv_icmp_le hG.1.1 hG.1.2.1 hd ht (fun h => kt h w p l e R s m args below meth c H locs cells slots ls ⟨hG.1, hG.2.1, hG.2.2.1, x_tl (x_tl hG.2.2.2.1), hG.2.2.2.2⟩) (fun h => kf h w p l e R s m args below meth c H locs cells slots ls ⟨hG.1, hG.2.1, hG.2.2.1, x_tl (x_tl hG.2.2.2.1), hG.2.2.2.2⟩)
theorem x_iload_n {j : Fin 4} {x : Int32} (hd : decode (mC k) pc = .ok (.iload_n j, 1)) (hl : L[(j : Nat)]? = some (some (.int x))) (h : x_V S k (pc + 1) L (.int x :: st) μ n Q) : x_V S k pc L st μ n Q := by
  intro w p l e R s m args below meth c H locs cells slots ls hG
  exact lv_iload_n hG.1.1 hG.1.2.1 hd rfl (hG.2.2.1.2.2.2 _ _ hl).1 (h w p l e R s m args below meth c H locs cells slots ls ⟨hG.1, hG.2.1, hG.2.2.1, x_cs (x_ok_int _ _) hG.2.2.2.1, hG.2.2.2.2⟩)
theorem x_iload {j : Nat} {x : Int32} (hd : decode (mC k) pc = .ok (.iload j, 2)) (hl : L[j]? = some (some (.int x))) (h : x_V S k (pc + 2) L (.int x :: st) μ n Q) : x_V S k pc L st μ n Q := by
  intro w p l e R s m args below meth c H locs cells slots ls hG
  exact lv_iload hG.1.1 hG.1.2.1 hd (hG.2.2.1.2.2.2 _ _ hl).1 (h w p l e R s m args below meth c H locs cells slots ls ⟨hG.1, hG.2.1, hG.2.2.1, x_cs (x_ok_int _ _) hG.2.2.2.1, hG.2.2.2.2⟩)
theorem x_aload_n {j : Fin 4} {a : Nat} (hd : decode (mC k) pc = .ok (.aload_n j, 1)) (hl : L[(j : Nat)]? = some (some (.ref a))) (h : x_V S k (pc + 1) L (.ref a :: st) μ n Q) : x_V S k pc L st μ n Q := by
  intro w p l e R s m args below meth c H locs cells slots ls hG
  exact lv_aload_n hG.1.1 hG.1.2.1 hd rfl (hG.2.2.1.2.2.2 _ _ hl).1 (h w p l e R s m args below meth c H locs cells slots ls ⟨hG.1, hG.2.1, hG.2.2.1, x_cs (hG.2.2.1.2.2.2 _ _ hl).2.2 hG.2.2.2.1, hG.2.2.2.2⟩)
theorem x_aload_nN {j : Fin 4} (hd : decode (mC k) pc = .ok (.aload_n j, 1)) (hl : L[(j : Nat)]? = some (some .null)) (h : x_V S k (pc + 1) L (.null :: st) μ n Q) : x_V S k pc L st μ n Q := by
  intro w p l e R s m args below meth c H locs cells slots ls hG
  exact lv_aload_nN hG.1.1 hG.1.2.1 hd rfl (hG.2.2.1.2.2.2 _ _ hl).1 (h w p l e R s m args below meth c H locs cells slots ls ⟨hG.1, hG.2.1, hG.2.2.1, x_cs (x_ok_null _) hG.2.2.2.1, hG.2.2.2.2⟩)
theorem x_aload {j : Nat} {a : Nat} (hd : decode (mC k) pc = .ok (.aload j, 2)) (hl : L[j]? = some (some (.ref a))) (h : x_V S k (pc + 2) L (.ref a :: st) μ n Q) : x_V S k pc L st μ n Q := by
  intro w p l e R s m args below meth c H locs cells slots ls hG
  exact lv_aload hG.1.1 hG.1.2.1 hd (hG.2.2.1.2.2.2 _ _ hl).1 (h w p l e R s m args below meth c H locs cells slots ls ⟨hG.1, hG.2.1, hG.2.2.1, x_cs (hG.2.2.1.2.2.2 _ _ hl).2.2 hG.2.2.2.1, hG.2.2.2.2⟩)
theorem x_aloadN {j : Nat} (hd : decode (mC k) pc = .ok (.aload j, 2)) (hl : L[j]? = some (some .null)) (h : x_V S k (pc + 2) L (.null :: st) μ n Q) : x_V S k pc L st μ n Q := by
  intro w p l e R s m args below meth c H locs cells slots ls hG
  exact lv_aloadN hG.1.1 hG.1.2.1 hd (hG.2.2.1.2.2.2 _ _ hl).1 (h w p l e R s m args below meth c H locs cells slots ls ⟨hG.1, hG.2.1, hG.2.2.1, x_cs (x_ok_null _) hG.2.2.2.1, hG.2.2.2.2⟩)
theorem x_istore_n {j : Fin 4} {x : Int32} (hd : decode (mC k) pc = .ok (.istore_n j, 1)) (hj : (j : Nat) < mL k) (h : x_V S k (pc + 1) (L.set (j : Nat) (some (.int x))) st μ n Q) : x_V S k pc L (.int x :: st) μ n Q := by
  intro w p l e R s m args below meth c H locs cells slots ls hG
  exact lv_istore_n hG.1.1 hG.1.2.1 hd rfl (x_L_has hG.2.2.1) hj rfl (fun ls' hl => h w p l e R s m args below meth c H locs cells slots ls' ⟨hG.1, hG.2.1, x_L_set hG.2.2.1 rfl (x_ok_int _ _) hl, x_tl hG.2.2.2.1, hG.2.2.2.2⟩)
theorem x_astore_n {j : Fin 4} {a : Nat} (hd : decode (mC k) pc = .ok (.astore_n j, 1)) (hj : (j : Nat) < mL k) (h : x_V S k (pc + 1) (L.set (j : Nat) (some (.ref a))) st μ n Q) : x_V S k pc L (.ref a :: st) μ n Q := by
  intro w p l e R s m args below meth c H locs cells slots ls hG
  exact lv_astore_n hG.1.1 hG.1.2.1 hd rfl (x_L_has hG.2.2.1) hj rfl (fun ls' hl => h w p l e R s m args below meth c H locs cells slots ls' ⟨hG.1, hG.2.1, x_L_set hG.2.2.1 rfl (x_hd hG.2.2.2.1) hl, x_tl hG.2.2.2.1, hG.2.2.2.2⟩)
theorem x_astore_nN {j : Fin 4}  (hd : decode (mC k) pc = .ok (.astore_n j, 1)) (hj : (j : Nat) < mL k) (h : x_V S k (pc + 1) (L.set (j : Nat) (some (.null))) st μ n Q) : x_V S k pc L (.null :: st) μ n Q := by
  intro w p l e R s m args below meth c H locs cells slots ls hG
  exact lv_astore_nN hG.1.1 hG.1.2.1 hd rfl (x_L_has hG.2.2.1) hj rfl (fun ls' hl => h w p l e R s m args below meth c H locs cells slots ls' ⟨hG.1, hG.2.1, x_L_set hG.2.2.1 rfl (x_ok_null _) hl, x_tl hG.2.2.2.1, hG.2.2.2.2⟩)
theorem x_istore {j : Nat} {x : Int32} (hd : decode (mC k) pc = .ok (.istore j, 2)) (hj : j < mL k) (h : x_V S k (pc + 2) (L.set j (some (.int x))) st μ n Q) : x_V S k pc L (.int x :: st) μ n Q := by
  intro w p l e R s m args below meth c H locs cells slots ls hG
  exact lv_istore hG.1.1 hG.1.2.1 hd (x_L_has hG.2.2.1) hj rfl (fun ls' hl => h w p l e R s m args below meth c H locs cells slots ls' ⟨hG.1, hG.2.1, x_L_set hG.2.2.1 rfl (x_ok_int _ _) hl, x_tl hG.2.2.2.1, hG.2.2.2.2⟩)
theorem x_astore {j : Nat} {a : Nat} (hd : decode (mC k) pc = .ok (.astore j, 2)) (hj : j < mL k) (h : x_V S k (pc + 2) (L.set j (some (.ref a))) st μ n Q) : x_V S k pc L (.ref a :: st) μ n Q := by
  intro w p l e R s m args below meth c H locs cells slots ls hG
  exact lv_astore hG.1.1 hG.1.2.1 hd (x_L_has hG.2.2.1) hj rfl (fun ls' hl => h w p l e R s m args below meth c H locs cells slots ls' ⟨hG.1, hG.2.1, x_L_set hG.2.2.1 rfl (x_hd hG.2.2.2.1) hl, x_tl hG.2.2.2.1, hG.2.2.2.2⟩)
theorem x_astoreN {j : Nat}  (hd : decode (mC k) pc = .ok (.astore j, 2)) (hj : j < mL k) (h : x_V S k (pc + 2) (L.set j (some (.null))) st μ n Q) : x_V S k pc L (.null :: st) μ n Q := by
  intro w p l e R s m args below meth c H locs cells slots ls hG
  exact lv_astoreN hG.1.1 hG.1.2.1 hd (x_L_has hG.2.2.1) hj rfl (fun ls' hl => h w p l e R s m args below meth c H locs cells slots ls' ⟨hG.1, hG.2.1, x_L_set hG.2.2.1 rfl (x_ok_null _) hl, x_tl hG.2.2.2.1, hG.2.2.2.2⟩)
theorem x_iinc {j : Nat} {z : Int} {x v : Int32} (hd : decode (mC k) pc = .ok (.iinc j z, 3)) (hl : L[j]? = some (some (.int x))) (hv : x + Int32.ofInt z = v) (hj : j < mL k) (h : x_V S k (pc + 3) (L.set j (some (.int v))) st μ n Q) : x_V S k pc L st μ n Q := by
  intro w p l e R s m args below meth c H locs cells slots ls hG
  obtain ⟨i, hi⟩ := List.getElem?_of_mem (x_lv_in (w := w) hl)
  exact lv_iinc hG.1.1 hG.1.2.1 hd (x_L_has hG.2.2.1) hi hv hj rfl (fun ls' hl => h w p l e R s m args below meth c H locs cells slots ls' ⟨hG.1, hG.2.1, x_L_set hG.2.2.1 rfl (x_ok_int _ _) hl, hG.2.2.2.1, hG.2.2.2.2⟩)
theorem x_ldc {i : Nat} {v : Int32} (hd : decode (mC k) pc = .ok (.ldc i, 2)) (hw : Jvm.Cond.constant (mY k).cls i v ∈ x_Ts) (h : x_V S k (pc + 2) L (.int v :: st) μ n Q) : x_V S k pc L st μ n Q := by
  intro w p l e R s m args below meth c H locs cells slots ls hG
  exact lv_ldc hG.1.1 hG.1.2.1 hG.1.2.2.2.2.2.1 (hG.1.2.2.2.2.2.2.1 _ hw) hd (h w p l e R s m args below meth c H locs cells slots ls ⟨hG.1, hG.2.1, hG.2.2.1, x_cs (x_ok_int _ _) hG.2.2.2.1, hG.2.2.2.2⟩)
/-- the end of a method -/
theorem x_mq {w : xW} {R : Room} {s : State} {below : List Frame} {args : Array Value} {H : Heap} {cells slots : Nat} {v : Option Value} (hR : x_R w μ n H) (hrm : x_rm n cells slots R) (hv : ∀ y, v = some y → x_ok n y) (h : Q (.inl v) μ n) (t : State)
    (hq : MQ below (fun _ _ o t => o = .returned (v.map (x_cv w)) ∧ t.heap = H) args s cells slots (fun q => w.1 ≤ q) t) : x_F w R s below Q t := by
  obtain ⟨o, h1, h2, ⟨h3, h4⟩, L', ⟨-, h5, h6⟩, h7⟩ := hq
  exact ⟨.inl v, μ, n, o, L', cells, slots, h, h1, h2, ⟨h3, hv⟩, by rw [h4]; exact hR, h5, h6, h7, hrm⟩
theorem x_mono {p : Program} {l : Launch} {e : Env} {R : Room} {s : State} {m : MethodId} {args : Array Value} {below : List Frame} {meth : Method} {c : Code} {H : Heap} {locs : List Loc} {cells slots : Nat} {P P' : State → Prop} {g : JFrame} (hPP : ∀ t, P t → P' t) (h : W p l e R s m args below meth c H locs cells slots P g) : W p l e R s m args below meth c H locs cells slots P' g := by
  intro T hT X
  obtain ⟨t, h1, h2⟩ := h T hT X
  exact ⟨t, h1, hPP t h2⟩
theorem x_ireturn {ty : FieldType} {v : Int32} (hd : decode (mC k) pc = .ok (.ireturn, 1)) (hr : mR k = some ty) (hn : narrow ty (.int v) = .int v) (h : Q (.inl (some (.int v))) μ n) : x_V S k pc L [.int v] μ n Q := by
  intro w p l e R s m args below meth c H locs cells slots ls hG
  have hlk : meth.locks = false := hG.1.2.2.2.2.1
  exact x_mono (x_mq (v := some (.int v)) hG.2.1 hG.2.2.2.2.2 (fun y hy => by cases hy; exact x_ok_int _ _) h) (W.zret hG.1.1 hG.1.2.1 (hG.1.2.2.2.1.trans hr) hn (fun t ht _ => ⟨rfl, ht⟩) hG.2.2.2.2.1 hd)
theorem x_return (hd : decode (mC k) pc = .ok (.return_, 1)) (hr : mR k = none) (h : Q (.inl none) μ n) : x_V S k pc L [] μ n Q := by
  intro w p l e R s m args below meth c H locs cells slots ls hG
  have hlk : meth.locks = false := hG.1.2.2.2.2.1
  exact x_mono (x_mq (v := none) hG.2.1 hG.2.2.2.2.2 (fun y hy => by cases hy) h) (W.vret hG.1.1 hG.1.2.1 (hG.1.2.2.2.1.trans hr) (fun t ht _ => ⟨rfl, ht⟩) hG.2.2.2.2.1 hd)
theorem x_areturn {ty : FieldType} {v : Value} (hd : decode (mC k) pc = .ok (.areturn, 1)) (hr : mR k = some ty) (hty : (∃ q, ty = .object q) ∨ ∃ t, ty = .array t) (hv : v = .null ∨ ∃ a, v = .ref a) (h : Q (.inl (some v)) μ n) : x_V S k pc L [v] μ n Q := by
  intro w p l e R s m args below meth c H locs cells slots ls hG
  have hlk : meth.locks = false := hG.1.2.2.2.2.1
  refine x_mono (x_mq (v := some v) hG.2.1 hG.2.2.2.2.2 (fun y hy => by cases hy; exact x_hd hG.2.2.2.1) h) (W.aret hG.1.1 hG.1.2.1 (hG.1.2.2.2.1.trans hr) hty ?_ (fun t ht _ => ⟨rfl, ht⟩) hG.2.2.2.2.1 hd)
  rcases hv with e | ⟨a, e⟩
  · rw [e]; exact Or.inl rfl
  · rw [e]; exact Or.inr ⟨_, rfl⟩
end XR
