/-! 80.end: the claim. -/
section LE
def y_0 : yS := (fun j => if j = 3 ∨ j = 4 then 1 else 0, [], [], [], [])
theorem g0_z : zC x_g0 y_0 [] := by
  refine ⟨⟨fun j h1 h2 => ?_, ⟨rfl, fun k _ h => absurd h (Nat.not_lt_zero _)⟩, ⟨rfl, by decide, fun k h => absurd h (Nat.not_lt_zero _)⟩, ⟨rfl, by decide, fun k h => absurd h (Nat.not_lt_zero _), fun i h1 h2 => ?_⟩, ⟨rfl, by decide, fun k h => absurd h (Nat.not_lt_zero _)⟩⟩, ⟨rfl, by decide, fun k h => absurd h (Nat.not_lt_zero _)⟩, fun j hj => ?_, fun j hj => ?_, fun j hj => ?_⟩
  · have hj : j = 3 ∨ j = 4 ∨ j = 5 ∨ j = 6 ∨ j = 7 ∨ j = 8 ∨ j = 9 ∨ j = 10 ∨ j = 11 := by omega
    rcases hj with q | q | q | q | q | q | q | q | q <;> rw [q] <;> rfl
  · unfold x_g0
    rw [if_neg (by omega), if_neg (by omega)]
    exact ⟨rfl, rfl⟩
  · unfold x_g0
    rw [if_neg (by omega)]
    omega
  · unfold x_g0
    rw [if_neg (by omega)]
    omega
  · unfold x_g0
    rw [if_neg (by omega)]
    omega
theorem g0_s : sC x_g0 y_0 [] := by
  refine ⟨⟨fun j h1 h2 => ?_, ⟨rfl, fun k _ h => absurd h (Nat.not_lt_zero _)⟩, fun j h1 h2 => ?_, ⟨rfl, by decide, fun k h => absurd h (Nat.not_lt_zero _)⟩, ⟨rfl, by decide, fun k h => absurd h (Nat.not_lt_zero _)⟩⟩, rfl, fun h => absurd rfl h, by decide, fun x hx => absurd hx List.not_mem_nil⟩
  · have hj : j = 3 ∨ j = 4 ∨ j = 5 ∨ j = 6 ∨ j = 7 ∨ j = 8 ∨ j = 9 ∨ j = 10 ∨ j = 11 := by omega
    rcases hj with q | q | q | q | q | q | q | q | q <;> rw [q] <;> rfl
  · have h2 : (j : Int) < 1 := h2
    omega
theorem g0_i : yI 1 2000 0 0 0 0 y_0 := by
  refine ⟨⟨?_, ?_, ?_, Or.inl rfl, Or.inl rfl, fun _ => rfl, ?_, ?_, ?_, ?_, ?_⟩, ⟨by decide, fun m h => absurd h List.not_mem_nil⟩, ⟨fun r h => absurd h List.not_mem_nil, ⟨List.Pairwise.nil, fun r h => absurd h List.not_mem_nil⟩, by decide⟩, ⟨fun i h => absurd h (Nat.not_lt_zero _), fun i j h => absurd h (Nat.not_lt_zero _), fun u h => absurd h List.not_mem_nil⟩, by decide⟩
  all_goals decide
theorem i_vc : Claimed_1_1 ∧ Claimed_1_2 := i_vc_open (fun L xs hL => l138 (lloop (S := (L, xs)) hL (L / 7) 0 x_g0 y_0 [] 116 none none (by show L < 7 * (0 + L / 7) + 7; omega) (by show 7 * 0 ≤ L; omega) ⟨g0_z, g0_s, g0_i, by omega, by omega⟩))
end LE
