/-! 23.writeto: Message.writeTo: the frame as a list of bytes. -/
section CW
variable {S : Nat × (Nat → Int32)} {μ : xM} {g : Nat → Nat → Int} {n r o a v : Nat} {Q : xQ}
/-- bytes that a frame may hold -/
def x_by (l : List Int) : Prop := ∀ x ∈ l, 0 ≤ x ∧ x ≤ 127
theorem x_by_app {l1 l2 : List Int} (h1 : x_by l1) (h2 : x_by l2) : x_by (l1 ++ l2) := fun x hx => by
  rcases List.mem_append.mp hx with h | h
  · exact h1 x h
  · exact h2 x h
theorem x_by_1 {y : Int} (h : 0 ≤ y ∧ y ≤ 127) : x_by [y] := fun x hx => by
  rw [List.mem_singleton.mp hx]
  exact h
theorem x_by_nil : x_by [] := fun x hx => by cases hx
theorem x_by_dk (k : Nat) (b v : Int) : x_by (x_dk k b v) := by
  induction k generalizing b with
  | zero => exact x_by_nil
  | succ k ih =>
    simp only [x_dk]
    split
    · intro x hx
      rcases List.mem_cons.mp hx with e | e
      · rw [e]; omega
      · exact ih 1 x e
    · exact ih 0
theorem x_by_nf (t v : Int) : x_by (x_nf t v) := x_by_app (x_by_app (x_by_app (x_by_dk _ _ _) (x_by_1 (by omega))) (x_by_dk _ _ _)) (x_by_1 (by omega))
theorem x_by_chf {t v : Int} (h : 0 ≤ v ∧ v ≤ 127) : x_by (x_chf t v) := x_by_app (x_by_app (x_by_app (x_by_dk _ _ _) (x_by_1 (by omega))) (x_by_1 h)) (x_by_1 (by omega))
theorem x_by_sf {s : Int} (h : 0 ≤ s ∧ s ≤ 255) : x_by (x_sf s) := x_by_app (x_by_app (x_by_app (x_by_app (x_by_app (x_by_dk _ _ _) (x_by_1 (by omega))) (x_by_1 (by omega))) (x_by_1 (by omega))) (x_by_1 (by omega))) (x_by_1 (by omega))
theorem x_by_of {t : Int} {vals : Nat → Int} {i : Nat} (h : x_tg t i = 39 → 0 ≤ vals i ∧ vals i ≤ 127) : x_by (x_of t vals i) := by
  unfold x_of
  split
  · exact x_by_chf (by split <;> omega)
  · split
    · rename_i q; exact x_by_chf (h q)
    · split
      · exact x_by_nil
      · exact x_by_nf _ _
theorem x_by_owl {t : Int} {vals : Nat → Int} (h : ∀ i : Nat, x_tg t i = 39 → 0 ≤ vals i ∧ vals i ≤ 127) (d i : Nat) : x_by (x_owl t vals d i) := by
  induction d generalizing i with
  | zero => exact x_by_nil
  | succ d ih => exact x_by_app (x_by_of (h i)) (ih (i + 1))
theorem x_owl_len (t : Int) (vals : Nat → Int) (d i : Nat) : (x_owl t vals d i).length ≤ 11 * d := by
  induction d generalizing i with
  | zero => simp [x_owl]
  | succ d ih =>
    have h1 := ih (i + 1)
    have h2 := x_of_len t vals i
    simp only [x_owl, List.length_append]
    omega
theorem x_sm_congr {f f' : Nat → Int} (n : Nat) (h : ∀ j, j < n → f j = f' j) : x_sm f n = x_sm f' n := by
  induction n with
  | zero => rfl
  | succ n ih =>
    simp only [x_sm]
    rw [ih (fun j hj => h j (by omega)), h n (by omega)]
theorem x_by_get {l : List Int} (h : x_by l) {j : Nat} (hj : j < l.length) : 0 ≤ l.getD j 0 ∧ l.getD j 0 ≤ 127 := by
  have e : l.getD j 0 = l[j] := by simp [List.getD_eq_getElem?_getD, hj]
  rw [e]
  exact h _ (List.getElem_mem hj)
/-- a frame's body and the frame: type, number, duplicate, values -/
def x_bd (t m d : Int) (vals : Nat → Int) : List Int := x_chf 35 t ++ x_nf 34 m ++ (if d = 0 then [] else x_chf 43 89) ++ x_owl t vals (x_fc t).toNat 0
def x_hb (t m d : Int) (vals : Nat → Int) : List Int := [56, 61, 70, 1, 57, 61, 48 + ((x_bd t m d vals).length : Int) / 10 % 10, 48 + ((x_bd t m d vals).length : Int) % 10, 1] ++ x_bd t m d vals
def x_fr (t m d : Int) (vals : Nat → Int) : List Int := x_hb t m d vals ++ x_sf (x_sm (fun j => (x_hb t m d vals).getD j 0) (x_hb t m d vals).length % 256)
theorem x_by_bd {t m d : Int} {vals : Nat → Int} (ht : 0 ≤ t ∧ t ≤ 127) (h : ∀ i : Nat, x_tg t i = 39 → 0 ≤ vals i ∧ vals i ≤ 127) : x_by (x_bd t m d vals) := by
  unfold x_bd
  refine x_by_app (x_by_app (x_by_app (x_by_chf ht) (x_by_nf _ _)) ?_) (x_by_owl h _ _)
  split
  · exact x_by_nil
  · exact x_by_chf (by omega)
theorem x_bd_len (t m d : Int) (vals : Nat → Int) : (x_bd t m d vals).length ≤ 64 := by
  have h1 := x_owl_len t vals (x_fc t).toNat 0
  have h2 := x_fc_b t
  have h3 := x_dk_len 6 0 m
  have e1 : x_dk 6 0 35 = [51, 53] := by decide +kernel
  have e2 : x_dk 6 0 34 = [51, 52] := by decide +kernel
  have e3 : x_dk 6 0 43 = [52, 51] := by decide +kernel
  unfold x_bd x_chf x_nf
  rw [e1, e2, e3]
  split <;> simp only [List.length_append, List.length_cons, List.length_nil] <;> omega
theorem x_by_hb {t m d : Int} {vals : Nat → Int} (ht : 0 ≤ t ∧ t ≤ 127) (h : ∀ i : Nat, x_tg t i = 39 → 0 ≤ vals i ∧ vals i ≤ 127) : x_by (x_hb t m d vals) := by
  have hb := x_bd_len t m d vals
  refine x_by_app ?_ (x_by_bd ht h)
  intro x hx
  simp only [List.mem_cons, List.not_mem_nil, or_false] at hx
  omega
theorem c25 (hr : x_row r o) (hm : x_msg a v) (hd : a ≠ r ∧ a ≠ o ∧ v ≠ r ∧ v ≠ o) (ht : 0 ≤ g a 0 ∧ g a 0 ≤ 127) (hn : 0 ≤ g a 1 ∧ g a 1 ≤ 2147483647) (hdd : g a 2 = 0 ∨ g a 2 = 1) (hv : ∀ i, i < 4 → -1 ≤ g v i ∧ g v i ≤ 999999) (hs : ∀ i : Nat, x_tg (g a 0) i = 39 → 0 ≤ g v i ∧ g v i ≤ 127) (hg : ∀ j, j < 120 → 0 ≤ g o j ∧ g o j ≤ 127)
    (h : Q (.inl none) (x_vm (x_rw r o (x_fr (g a 0) (g a 1) (g a 2) (g v)) g)) n) : x_V S 25 0 [some (.ref a), some (.ref r), none, none] [] (x_vm g) n Q := by
  have hmm := hm
  have hrr := hr
  have hds := hd
  obtain ⟨hm1, hm2, hm3, hm4, hm5, hpo, hm6, hm7⟩ := hm
  have hp0 := hm3 0 (by omega)
  have hp1 := hm3 1 (by omega)
  have hp2 := hm3 2 (by omega)
  obtain ⟨hr1, hr2, hr3, hr4, hr5, hpr, hr6, hr7⟩ := hr
  obtain ⟨hd1, hd2, hd3, hd4⟩ := hd
  have ea : ∀ l i, x_rw r o l g a i = g a i := fun l i => x_rw_ot hd1 hd2 l g
  have l1 := x_dk_len 6 0 (g a 1)
  have e1 : x_dk 6 0 35 = [51, 53] := by decide +kernel
  have e2 : x_dk 6 0 34 = [51, 52] := by decide +kernel
  have e3 : x_dk 6 0 43 = [52, 51] := by decide +kernel
  have lc1 : (x_chf 35 (g a 0)).length = 5 := by simp [x_chf, e1]
  have lc2 : (x_nf 34 (g a 1)).length ≤ 10 := by
    simp only [x_nf, e2, List.length_append, List.length_cons, List.length_nil]
    omega
  have lc3 : (x_chf 43 89).length = 5 := by simp [x_chf, e3]
  have lbd := x_bd_len (g a 0) (g a 1) (g a 2) (g v)
  have hfin : ∀ B1 : List Int, B1.length ≤ 20 → x_bd (g a 0) (g a 1) (g a 2) (g v) = B1 ++ x_owl (g a 0) (g v) (x_fc (g a 0)).toNat 0 → x_V S 25 60 [some (.ref a), some (.ref r), some (.int (I 9)), none] [] (x_vm (x_rw r o ([56, 61, 70, 1, 57, 61, 49, 48, 1] ++ B1) g)) n Q := by
    intro B1 hB1 hbd
    have eN : ((([56, 61, 70, 1, 57, 61, 49, 48, 1] ++ B1 ++ x_owl (g a 0) (g v) (x_fc (g a 0)).toNat 0 : List Int).length : Nat) : Int) - 9 = (x_bd (g a 0) (g a 1) (g a 2) (g v)).length := by
      rw [hbd]
      simp only [List.length_append, List.length_cons, List.length_nil]
      omega
    have hlN : ([56, 61, 70, 1, 57, 61, 49, 48, 1] ++ B1 ++ x_owl (g a 0) (g v) (x_fc (g a 0)).toNat 0 : List Int).length ≤ 73 := by omega
    have hl9 : 9 ≤ ([56, 61, 70, 1, 57, 61, 49, 48, 1] ++ B1 ++ x_owl (g a 0) (g v) (x_fc (g a 0)).toNat 0 : List Int).length := by
      simp only [List.length_append, List.length_cons, List.length_nil]
      omega
    have e5 : ∀ x y : Int, (([56, 61, 70, 1, 57, 61, 49, 48, 1] ++ B1 ++ x_owl (g a 0) (g v) (x_fc (g a 0)).toNat 0).set 6 x).set 7 y = [56, 61, 70, 1, 57, 61, x, y, 1] ++ x_bd (g a 0) (g a 1) (g a 2) (g v) := fun x y => by
      rw [hbd, List.append_assoc]
      rfl
    have ehb : x_hb (g a 0) (g a 1) (g a 2) (g v) = [56, 61, 70, 1, 57, 61, 48 + ((x_bd (g a 0) (g a 1) (g a 2) (g v)).length : Int) / 10 % 10, 48 + ((x_bd (g a 0) (g a 1) (g a 2) (g v)).length : Int) % 10, 1] ++ x_bd (g a 0) (g a 1) (g a 2) (g v) := rfl
    have hby := x_by_hb (t := g a 0) (m := g a 1) (d := g a 2) (vals := g v) ht hs
    have hhl : (x_hb (g a 0) (g a 1) (g a 2) (g v)).length ≤ 73 := by
      rw [ehb]
      simp only [List.length_append, List.length_cons, List.length_nil]
      omega
    generalize hN : ((x_bd (g a 0) (g a 1) (g a 2) (g v)).length : Int) = N at *
    have hN0 : 0 ≤ N ∧ N ≤ 64 := by omega
    refine s25_60 rfl ?_
    refine s25_61 rfl ?_
    refine s25_62 rfl (by first | assumption | rfl) (by simp) ?_
    refine c26 hrr hmm hds ⟨by omega, by omega⟩ hv (by simp only [List.length_append, List.length_cons, List.length_nil]; omega) ?_
    refine ⟨_, rfl, ?_⟩
    refine s25_65 rfl ?_
    refine s25_66 (by first | assumption | rfl) (by first | assumption | (exact hpo _) | rfl | decide) (by first | assumption | decide | omega) ?_
    rw [x_rw_sz]
    refine s25_69 rfl ?_
    refine s25_70 ?_
    rw [eN]
    refine s25_71 ?_
    refine s25_72 rfl ?_
    refine s25_73 rfl ?_
    refine s25_74 ?_
    refine s25_75 ?_
    refine s25_76 ?_
    refine s25_78 rfl ?_
    refine s25_79 ?_
    refine s25_81 ⟨by omega, by omega⟩ ⟨by omega, by omega⟩ (by omega) (by omega) ?_
    refine s25_82 ?_
    refine s25_84 ⟨by omega, by omega⟩ ⟨by omega, by omega⟩ (by omega) (by omega) ?_
    refine s25_85 ?_
    refine s25_86 (by first | assumption | rfl) (by simp) ?_
    refine c10 hrr ⟨by omega, by omega⟩ ⟨(by simp only [x_rw_sz]; first | omega | (simp only [List.length_append, List.length_cons, List.length_nil]; omega)), (by simp only [x_rw_sz]; first | omega | (simp only [List.length_append, List.length_cons, List.length_nil]; omega))⟩ ⟨by omega, by rw [x_rw_sz]; omega⟩ ?_
    refine ⟨_, rfl, ?_⟩
    rw [show ((9 : Int) - 3).toNat = 6 from rfl, x_rw_set hr7 (by omega)]
    refine s25_89 rfl ?_
    refine s25_90 rfl ?_
    refine s25_91 ?_
    refine s25_92 ?_
    refine s25_93 ?_
    refine s25_95 rfl ?_
    refine s25_96 ?_
    refine s25_98 ⟨by omega, by omega⟩ ⟨by omega, by omega⟩ (by omega) (by omega) ?_
    refine s25_99 ?_
    refine s25_100 (by first | assumption | rfl) (by simp) ?_
    refine c10 hrr ⟨by omega, by omega⟩ ⟨by rw [x_rw_sz]; omega, by rw [x_rw_sz, List.length_set]; omega⟩ ⟨by omega, by rw [x_rw_sz, List.length_set]; omega⟩ ?_
    refine ⟨_, rfl, ?_⟩
    rw [show ((9 : Int) - 2).toNat = 7 from rfl, x_rw_set hr7 (by rw [List.length_set]; omega), e5, ← ehb]
    refine s25_103 rfl ?_
    refine s25_104 (by first | assumption | rfl) (by simp) ?_
    refine c15 hrr (fun j hj => ?_) (by rw [x_rw_sz]; omega) (by rw [x_rw_sz]; omega) ?_
    · by_cases hjl : j < (x_hb (g a 0) (g a 1) (g a 2) (g v)).length
      · rw [x_rw_at hr7 hjl]
        exact x_by_get hby hjl
      · have e6 : x_rw r o (x_hb (g a 0) (g a 1) (g a 2) (g v)) g o j = g o j := by
          unfold x_rw
          rw [if_neg (fun q => hr7 q.1.symm), if_neg (fun q => hjl q.2)]
        rw [e6]
        exact hg j hj
    refine ⟨_, rfl, ?_⟩
    rw [x_rw_app hr7, x_rw_sz, Int.toNat_natCast, x_sm_congr _ (fun j hj => x_rw_at hr7 hj g)]
    refine s25_107 (st := []) ?_
    exact h
  refine s25_0 rfl ?_
  refine s25_1 (by first | assumption | rfl) (by simp) ?_
  refine c6 hrr ?_
  refine ⟨_, rfl, ?_⟩
  rw [x_rw_0 r o]
  refine s25_4 rfl ?_
  refine s25_5 ?_
  refine s25_7 ?_
  refine s25_9 (by first | assumption | rfl) (by simp) ?_
  refine c14 hrr ⟨by omega, by omega⟩ (by simp only [x_rw_sz]; first | omega | (simp only [List.length_append, List.length_cons, List.length_nil]; omega)) (by simp only [x_rw_sz]; first | omega | (simp only [List.length_append, List.length_cons, List.length_nil]; omega)) ?_
  refine ⟨_, rfl, ?_⟩
  rw [x_rw_app hr7]
  refine s25_12 rfl ?_
  refine s25_13 ?_
  refine s25_15 ?_
  refine s25_17 (by first | assumption | rfl) (by simp) ?_
  refine c13 hrr ⟨by omega, by omega⟩ ⟨by omega, by omega⟩ (by simp only [x_rw_sz]; omega) (by rw [x_rw_sz, show ([] ++ x_chf 8 70 : List Int).length = 4 from by decide +kernel]; omega) ?_
  refine ⟨_, rfl, ?_⟩
  rw [x_rw_app hr7, show ([] ++ x_chf 8 70 ++ x_nf 9 10 : List Int) = [56, 61, 70, 1, 57, 61, 49, 48, 1] from by decide +kernel]
  refine s25_20 rfl ?_
  refine s25_21 (by first | assumption | rfl) (by first | assumption | (exact hpo _) | rfl | decide) (by first | assumption | decide | omega) ?_
  rw [x_rw_sz, show (([56, 61, 70, 1, 57, 61, 49, 48, 1] : List Int).length : Int) = 9 from rfl]
  refine s25_24 ?_
  refine s25_25 rfl ?_
  refine s25_26 ?_
  refine s25_28 rfl ?_
  refine s25_29 (by first | assumption | rfl) (by first | assumption | (exact hpo _) | rfl | decide) (by first | assumption | decide | omega) ?_
  rw [ea]
  refine s25_32 (by first | assumption | rfl) (by simp) ?_
  refine c14 hrr ⟨by omega, by omega⟩ (by simp only [x_rw_sz]; first | omega | (simp only [List.length_append, List.length_cons, List.length_nil]; omega)) (by simp only [x_rw_sz]; first | omega | (simp only [List.length_append, List.length_cons, List.length_nil]; omega)) ?_
  refine ⟨_, rfl, ?_⟩
  rw [x_rw_app hr7]
  refine s25_35 rfl ?_
  refine s25_36 ?_
  refine s25_38 rfl ?_
  refine s25_39 (by first | assumption | rfl) (by first | assumption | (exact hpo _) | rfl | decide) (by first | assumption | decide | omega) ?_
  rw [ea]
  refine s25_42 (by first | assumption | rfl) (by simp) ?_
  refine c13 hrr ⟨by omega, by omega⟩ hn (by rw [x_rw_sz]; omega) (by rw [x_rw_sz, List.length_append, lc1]; simp only [List.length_cons, List.length_nil]; omega) ?_
  refine ⟨_, rfl, ?_⟩
  rw [x_rw_app hr7]
  refine s25_45 rfl ?_
  refine s25_46 (by first | assumption | rfl) (by first | assumption | (exact hpo _) | rfl | decide) (by first | assumption | decide | omega) ?_
  rw [ea]
  refine s25_49 ⟨by omega, by omega⟩ (fun h49 => ?_) (fun h49 => ?_)
  · first
      | (rw [List.append_assoc, List.append_assoc]; exact hfin _ (by simp only [List.length_append, lc1, lc3]; omega) (by unfold x_bd; rw [if_neg (by omega)]; simp only [List.append_assoc]))
      | (rw [List.append_assoc]; exact hfin _ (by simp only [List.length_append, lc1]; omega) (by unfold x_bd; rw [if_pos (by omega), List.append_nil]))
  · refine s25_52 rfl ?_
    refine s25_53 ?_
    refine s25_55 ?_
    refine s25_57 (by first | assumption | rfl) (by simp) ?_
    refine c14 hrr ⟨by omega, by omega⟩ (by rw [x_rw_sz]; omega) (by rw [x_rw_sz, List.length_append, List.length_append, lc1]; simp only [List.length_cons, List.length_nil]; omega) ?_
    refine ⟨_, rfl, ?_⟩
    rw [x_rw_app hr7]
    first
      | (rw [List.append_assoc, List.append_assoc]; exact hfin _ (by simp only [List.length_append, lc1, lc3]; omega) (by unfold x_bd; rw [if_neg (by omega)]; simp only [List.append_assoc]))
      | (rw [List.append_assoc]; exact hfin _ (by simp only [List.length_append, lc1]; omega) (by unfold x_bd; rw [if_pos (by omega), List.append_nil]))
end CW
