theorem i_same {g g' : Nat → Int32} (h : Inv g) (e : ∀ k, k ≠ 3 → k ≠ 5 → k ≠ 6 → k ≠ 7 → (k < 10 ∨ (k - 10) % 4 ≠ 3) → g' k = g k) (h1 : 0 ≤ (g' 3).toInt) (h2 : (g' 3).toInt ≤ (g 0).toInt) : Inv g' := by
  have e0 : g' 0 = g 0 := e 0 (by omega) (by omega) (by omega) (by omega) (by omega)
  have e1 : g' 1 = g 1 := e 1 (by omega) (by omega) (by omega) (by omega) (by omega)
  have e2 : g' 2 = g 2 := e 2 (by omega) (by omega) (by omega) (by omega) (by omega)
  have e4 : g' 4 = g 4 := e 4 (by omega) (by omega) (by omega) (by omega) (by omega)
  have e8 : ∀ f, f < 2 → g' (8 + f) = g (8 + f) := fun f hf => e (8 + f) (by omega) (by omega) (by omega) (by omega) (by omega)
  have eb : ∀ f, f < 2 → bn g' f = bn g f := fun f hf => by unfold bn; rw [e8 f hf]
  have er : ∀ r k, k < 3 → g' (10 + 4 * r + k) = g (10 + 4 * r + k) := fun r k hk => e _ (by omega) (by omega) (by omega) (by omega) (by omega)
  have ew : ∀ r, wI g' r = wI g r := fun r => by unfold wI; rw [er r 0 (by omega), er r 2 (by omega)]
  have ef : ∀ f n, fI g' f n = fI g f n := fun f n => by
    induction n with
    | zero => rfl
    | succ n ih => show fI g' f n + wI g' _ = fI g f n + wI g _; rw [ih, ew]
  unfold Inv
  rw [e0, e1, e2, e4, eb 0 (by omega), eb 1 (by omega), ef, ef]
  refine ⟨fun f hf => ?_, h.L1, h.L2, h.G1, h.G2, h.M1, h.M2, h1, h2, h.S1, h.S2, fun f b hf hb => ?_, h.gap⟩
  · rw [e8 f hf, eb f hf]; exact h.bN f hf
  · rw [eb f hf] at hb
    rw [er _ 0 (by omega), er _ 2 (by omega), er _ 1 (by omega)]
    exact h.rows f b hf hb
theorem tv3 {g : Nat → Int32} {x : Int32} : tv g x 3 = x := by unfold tv; rw [pk_us]
theorem tv_un {g : Nat → Int32} {x : Int32} {k : Nat} (h3 : k ≠ 3) (h6 : k ≠ 6) : tv g x k = g k := by unfold tv; rw [pk_un h3, pk_un h6]
theorem i_tv {g : Nat → Int32} {x : Int32} (h : Inv g) (h1 : 0 ≤ x.toInt) (h2 : x.toInt ≤ (g 0).toInt) : Inv (tv g x) := i_same h (fun k a b c d q => tv_un a c) (by rw [tv3]; exact h1) (by rw [tv3]; exact h2)
theorem inr_le {v a b : Int32} : inr v a b = if v < a then 0 else if v ≤ b then 1 else 0 := by
  unfold inr
  by_cases h : v < a
  · rw [if_pos h, if_pos h]
  · rw [if_neg h, if_neg h]
    by_cases h2 : v ≤ b
    · rw [if_pos h2, if_neg (Int32.not_lt.mpr h2)]
    · rw [if_neg h2, if_pos (Int32.not_le.mp h2)]
theorem i_mov {g : Nat → Int32} {x : Int32} (h : Inv g) : m_mov g x = ((s_mov g x).1, (s_mov g x).2, decide (0 ≤ (s_mov g x).1)) ∧ Inv (s_mov g x).2 := by
  have a1 := h.L1; have a2 := h.L2; have a3 := h.H1; have a4 := h.H2
  unfold m_mov s_mov
  rw [inr_le]
  by_cases h1 : x < 0
  · simp only [h1, ↓reduceIte]; exact ⟨rfl, h⟩
  · by_cases h2 : x ≤ g 0
    · have b1 : 0 ≤ x.toInt := by rw [ti_lt, ti_0] at h1; omega
      have b2 : x.toInt ≤ (g 0).toInt := ti_le.mp h2
      have e : (x - g 3).toInt = x.toInt - (g 3).toInt := ti_sub (by omega) (by omega)
      have hab : 0 ≤ ab (x - g 3) := by
        unfold ab
        split
        · assumption
        · rename_i q
          rw [ti_le, ti_0] at q ⊢
          rw [ti_sub (by rw [ti_0]; omega) (by rw [ti_0]; omega), ti_0]
          omega
      have n1 : ¬ ((1 : Int32) = 0) := by decide
      simp only [h1, h2, n1, ↓reduceIte, hab, decide_true]
      rw [i_tvm h b1 (by omega), ap_ab (by omega) (by omega) (by omega) (by omega)]
      exact ⟨rfl, i_tv h b1 b2⟩
    · simp only [h1, h2, ↓reduceIte]; exact ⟨rfl, h⟩
theorem i_rew {g : Nat → Int32} (h : Inv g) : m_rew g = s_rew g ∧ 0 ≤ (s_rew g).1 ∧ Inv (s_rew g).2 := by
  have a1 := h.L1; have a2 := h.L2; have a3 := h.H1; have a4 := h.H2
  unfold m_rew s_rew
  rw [i_tvm h a1 a2, i_tvm h (x := 0) (by rw [ti_0]; omega) (by rw [ti_0]; omega)]
  split
  · exact ⟨rfl, by rw [tv3, ti_le, ti_0]; exact a1, i_tv h a1 (by omega)⟩
  · exact ⟨rfl, by rw [tv3]; show (0 : Int32) ≤ 0; decide, i_tv h (by rw [ti_0]; omega) (by rw [ti_0]; omega)⟩
