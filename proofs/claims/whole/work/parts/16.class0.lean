/-! Reading a text, by the class -/
def CH (P : Nat → Int32) (n : Nat) : Prop := ∀ j, j < n → ∃ c, c < 128 ∧ P j = nI c
theorem chr_ch {P : Nat → Int32} {n : Nat} (h : CH P n) (j : Nat) : ∃ c, c < 128 ∧ chr P n j = nI c := by
  unfold chr
  split
  · rename_i q; exact h j q
  · exact ⟨0, by omega, rfl⟩
theorem nar_chr {P : Nat → Int32} {n : Nat} (h : CH P n) (j : Nat) : narrow .char (.int (chr P n j)) = .int (chr P n j) := by
  obtain ⟨c, hc, e⟩ := chr_ch h j
  rw [e]; exact (pk_charN (by omega)).1
theorem fit_chr {P : Nat → Int32} {n : Nat} (h : CH P n) (j : Nat) : fits .char (.int (chr P n j)) = true := by
  obtain ⟨c, hc, e⟩ := chr_ch h j
  rw [e]; exact (pk_charN (by omega)).2
theorem nar_P {P : Nat → Int32} {n j : Nat} (h : CH P n) (hj : j < n) : narrow .char (.int (P j)) = .int (P j) := by
  obtain ⟨c, hc, e⟩ := h j hj
  rw [e]; exact (pk_charN (by omega)).1
def ptb (P : Nat → Int32) (n : Nat) (c : Int32) (q : Nat × Bool) : Bool := if q.2 = true then false else if chr P n q.1 = c then true else false
def ptq (P : Nat → Int32) (n : Nat) (c : Int32) (q : Nat × Bool) : Nat := if ptb P n c q = true then q.1 + 1 else q.1
def dgn (P : Nat → Int32) (n : Nat) (q : Nat × Bool) : Bool := if q.2 = true then false else if chr P n q.1 < 48 then false else if 57 < chr P n q.1 then false else true
theorem inr_cc (v c : Int32) : inr v c c = if v = c then 1 else 0 := by
  unfold inr
  by_cases h : v = c
  · subst h
    rw [if_neg (Int32.lt_irrefl), if_neg (Int32.lt_irrefl), if_pos rfl]
  · rw [if_neg h]
    by_cases h1 : v < c
    · rw [if_pos h1]
    · rw [if_neg h1, if_pos (show c < v by
        rw [Int32.lt_iff_toInt_lt] at h1 ⊢
        have : v.toInt ≠ c.toInt := fun q => h (Int32.toInt_inj.mp q)
        omega)]
theorem sg_pt {P : Nat → Int32} {n : Nat} {c : Int32} {q : Nat × Bool} (h : ptb P n c q = true) : sg P n c c q = (q.1 + 1, q.2) := by
  obtain ⟨q, w⟩ := q
  unfold ptb at h
  unfold sg
  cases w
  · simp only [Bool.false_eq_true, ↓reduceIte] at h ⊢
    split at h
    · rename_i e
      rw [inr_cc, if_pos e, if_neg (by decide)]
    · cases h
  · simp at h
theorem sg_pf {P : Nat → Int32} {n : Nat} {c : Int32} {q : Nat × Bool} (h : ptb P n c q = false) : sg P n c c q = (q.1, true) := by
  obtain ⟨q, w⟩ := q
  unfold ptb at h
  unfold sg
  cases w
  · simp only [Bool.false_eq_true, ↓reduceIte] at h ⊢
    split at h
    · cases h
    · rename_i e
      rw [inr_cc, if_neg e, if_pos rfl]
  · rfl
theorem sg_r1 {P : Nat → Int32} {n : Nat} {q : Nat × Bool} (h : ptb P n 49 q = true) : sg P n 48 49 q = (q.1 + 1, q.2) := by
  obtain ⟨q, w⟩ := q
  unfold ptb at h
  unfold sg
  cases w
  · simp only [Bool.false_eq_true, ↓reduceIte] at h ⊢
    split at h
    · rename_i e
      rw [e, if_neg (by decide)]
    · cases h
  · simp at h
theorem sg_r0 {P : Nat → Int32} {n : Nat} {q : Nat × Bool} (h : ptb P n 49 q = false) : sg P n 48 48 q = sg P n 48 49 q := by
  obtain ⟨q, w⟩ := q
  unfold ptb at h
  unfold sg
  cases w
  · simp only [Bool.false_eq_true, ↓reduceIte] at h ⊢
    split at h
    · cases h
    · rename_i e
      generalize chr P n q = v at e ⊢
      rw [inr_cc]
      unfold inr
      by_cases h1 : v < 48
      · rw [if_pos h1, if_neg (show ¬ v = 48 from fun z => by rw [z] at h1; exact absurd h1 (by decide))]
      · rw [if_neg h1]
        by_cases h2 : 49 < v
        · rw [if_pos h2, if_neg (show ¬ v = 48 from fun z => by rw [z] at h2; exact absurd h2 (by decide))]
        · have hv : v = 48 := by
            apply Int32.toInt_inj.mp
            have e1 : v.toInt ≠ (49 : Int32).toInt := fun z => e (Int32.toInt_inj.mp z)
            rw [Int32.lt_iff_toInt_lt] at h1 h2
            have a1 : (48 : Int32).toInt = 48 := by decide
            have a2 : (49 : Int32).toInt = 49 := by decide
            omega
          rw [if_neg h2, if_pos hv]
  · rfl
def fl (P : Nat → Int32) (n : Nat) (q : Nat × Bool) : Int32 := if ptb P n 49 q = true then 1 else 0
def rl (P : Nat → Int32) (n : Nat) : Nat → Int32 → Nat → Int32 × Nat
  | 0, v, q => (v, q)
  | r + 1, v, q => if dgn P n (q, false) = true then rl P n r (10 * v + (chr P n q - 48)) (q + 1) else (v, q)
def cn (P : Nat → Int32) (n : Nat) (q : Nat × Bool) : Int32 × (Nat × Bool) := if dgn P n q = true then (if ptb P n 48 q = true then (0, (q.1 + 1, q.2)) else ((rl P n 4 0 q.1).1, ((rl P n 4 0 q.1).2, q.2))) else (0, (q.1, true))
theorem dgn_lt {P : Nat → Int32} {n q : Nat} {w : Bool} (h : dgn P n (q, w) = true) : q < n ∧ w = false := by
  unfold dgn at h
  cases w
  · simp only [Bool.false_eq_true, ↓reduceIte] at h
    refine ⟨?_, rfl⟩
    rcases Nat.lt_or_ge q n with z | z
    · exact z
    · have e : chr P n q = 0 := if_neg (by omega)
      rw [e, if_pos (by decide)] at h
      cases h
  · simp at h
theorem rl_bd {P : Nat → Int32} {n : Nat} : ∀ (r : Nat) (v : Int32) (q : Nat), q ≤ n → q ≤ (rl P n r v q).2 ∧ (rl P n r v q).2 ≤ n
  | 0, _, _, hq => ⟨Nat.le_refl _, hq⟩
  | r + 1, v, q, hq => by
    unfold rl
    split
    · rename_i h
      have h1 := (dgn_lt h).1
      have h2 := rl_bd (P := P) (n := n) r (10 * v + (chr P n q - 48)) (q + 1) (by omega)
      exact ⟨by omega, h2.2⟩
    · exact ⟨Nat.le_refl _, hq⟩
theorem ptb_lt {P : Nat → Int32} {n : Nat} {c : Int32} {q : Nat × Bool} (h : ptb P n c q = true) (hc : ¬ c = 0) : q.1 < n := by
  unfold ptb at h
  split at h
  · cases h
  · split at h
    · rename_i e; exact chr_lt e hc
    · cases h
theorem cn_bd {P : Nat → Int32} {n : Nat} {q : Nat × Bool} (hq : q.1 ≤ n) : (cn P n q).2.1 ≤ n := by
  unfold cn
  split
  · split
    · rename_i h; exact ptb_lt h (by decide)
    · exact (rl_bd 4 0 q.1 hq).2
  · exact hq
theorem dgn_nx {P : Nat → Int32} {n : Nat} {q : Nat × Bool} : dgn P n q = nx P n 48 57 q := by
  obtain ⟨q, w⟩ := q
  unfold dgn nx
  cases w
  · simp only [Bool.false_eq_true, ↓reduceIte]
    by_cases hq : q < n
    · rw [if_pos hq]
      have e : chr P n q = P q := if_pos hq
      rw [e]
      unfold inr
      by_cases h1 : P q < 48
      · rw [if_pos h1, if_pos h1, if_pos rfl]
      · rw [if_neg h1, if_neg h1]
        by_cases h2 : 57 < P q
        · rw [if_pos h2, if_pos h2, if_pos rfl]
        · rw [if_neg h2, if_neg h2, if_neg (by decide)]
    · rw [if_neg hq]
      have e : chr P n q = 0 := if_neg hq
      rw [e, if_pos (by decide)]
  · rfl
theorem nx_sg {P : Nat → Int32} {n q : Nat} (h : nx P n 48 57 (q, false) = true) : sg P n 48 57 (q, false) = (q + 1, false) ∧ 48 ≤ (chr P n q).toInt ∧ (chr P n q).toInt ≤ 57 := by
  rw [← dgn_nx] at h
  unfold dgn at h
  simp only [Bool.false_eq_true, ↓reduceIte] at h
  split at h
  · cases h
  · rename_i h1
    split at h
    · cases h
    · rename_i h2
      have a1 : (48 : Int32).toInt = 48 := by decide
      have a2 : (57 : Int32).toInt = 57 := by decide
      refine ⟨?_, ?_, ?_⟩
      · unfold sg inr
        simp only [Bool.false_eq_true, ↓reduceIte, h1, h2]
        rfl
      · rw [Int32.lt_iff_toInt_lt] at h1; omega
      · rw [Int32.lt_iff_toInt_lt] at h2; omega
theorem nx_sgf {P : Nat → Int32} {n q : Nat} (h : nx P n 48 57 (q, false) = false) : sg P n 48 57 (q, false) = (q, true) := by
  rw [← dgn_nx] at h
  unfold dgn at h
  unfold sg inr
  simp only [Bool.false_eq_true, ↓reduceIte] at h ⊢
  split at h
  · rename_i h1
    rw [if_pos h1, if_pos rfl]
  · rename_i h1
    split at h
    · rename_i h2
      rw [if_neg h1, if_pos h2, if_pos rfl]
    · cases h
/-- a number so far, and a digit -/
theorem dig_step {v c : Int32} (hv : 0 < v.toInt) (hv2 : v.toInt ≤ 999) (h1 : 48 ≤ c.toInt) (h2 : c.toInt ≤ 57) : (10 * v + (c - 48)).toInt = 10 * v.toInt + (c.toInt - 48) ∧ 10 * v + c - 48 = 10 * v + (c - 48) := by
  refine ⟨?_, by grind⟩
  rw [Int32.toInt_add, Int32.toInt_mul, Int32.toInt_sub]
  have a1 : (48 : Int32).toInt = 48 := by decide
  have a2 : (10 : Int32).toInt = 10 := by decide
  rw [a1, a2]
  have e1 : (c.toInt - 48).bmod (2 ^ 32) = c.toInt - 48 := Int.bmod_eq_of_le (by omega) (by omega)
  have e2 : (10 * v.toInt).bmod (2 ^ 32) = 10 * v.toInt := Int.bmod_eq_of_le (by omega) (by omega)
  rw [e1, e2]
  exact Int.bmod_eq_of_le (by omega) (by omega)
/-- the loops agree -/
theorem rl_nml {P : Nat → Int32} {n : Nat} : ∀ (r : Nat) (v : Int32) (q : Nat) (M : Int), 0 < v.toInt → v.toInt ≤ M → (r = 0 ∨ (r = 1 ∧ M = 999) ∨ (r = 2 ∧ M = 99) ∨ (r = 3 ∧ M = 9)) → nml P n r v (q, false) = ((rl P n r v q).1, ((rl P n r v q).2, false))
  | 0, _, _, _, _, _, _ => rfl
  | r + 1, v, q, M, hv, hv2, hr => by
    have hv0 : 0 < v := by rw [Int32.lt_iff_toInt_lt]; exact hv
    unfold nml rl
    rw [if_pos hv0, dgn_nx]
    split
    · rename_i h
      obtain ⟨h1, h2, h3⟩ := nx_sg h
      obtain ⟨s1, s2⟩ := dig_step hv (by omega) h2 h3
      rw [h1]
      show nml P n r (10 * v + chr P n q - 48) (q + 1, false) = _
      rw [s2]
      exact rl_nml r _ (q + 1) (10 * M + 9) (by omega) (by omega) (by omega)
    · rfl
theorem nm_true {P : Nat → Int32} {n q : Nat} : (nm P n (q, true)).2 = (q, true) := by
  unfold nm
  have e1 : sg P n 48 57 (q, true) = (q, true) := rfl
  rw [e1]
  unfold nml
  split
  · rw [show nx P n 48 57 (q, true) = false from rfl, if_neg (by decide)]
  · rfl
/-- the class's number and the model's: the same state, and the same value if nothing is wrong -/
theorem cn_nm {P : Nat → Int32} {n : Nat} (q : Nat × Bool) : (cn P n q).2 = (nm P n q).2 ∧ ((nm P n q).2.2 = false → (cn P n q).1 = (nm P n q).1) := by
  obtain ⟨q, w⟩ := q
  cases w
  · unfold cn
    rw [dgn_nx]
    cases h : nx P n 48 57 (q, false)
    · rw [if_neg (by decide)]
      have e : (nm P n (q, false)).2 = (q, true) := by
        unfold nm
        rw [nx_sgf h]
        unfold nml
        split
        · rw [show nx P n 48 57 (q, true) = false from rfl, if_neg (by decide)]
        · rfl
      rw [e]
      exact ⟨rfl, fun z => by cases z⟩
    · rw [if_pos rfl]
      obtain ⟨h1, h2, h3⟩ := nx_sg h
      unfold nm
      rw [h1]
      by_cases h0 : chr P n q = 48
      · have hp : ptb P n 48 (q, false) = true := by unfold ptb; simp only [Bool.false_eq_true, ↓reduceIte, h0]
        rw [if_pos hp]
        have e : chr P n (q, false).1 - 48 = 0 := by show chr P n q - 48 = 0; rw [h0]; rfl
        rw [e]
        unfold nml
        rw [if_neg (by decide)]
        exact ⟨rfl, fun _ => rfl⟩
      · have hp : ptb P n 48 (q, false) = false := by unfold ptb; simp only [Bool.false_eq_true, ↓reduceIte, h0]
        rw [hp, if_neg (by decide)]
        have a1 : (48 : Int32).toInt = 48 := by decide
        have hne : (chr P n q).toInt ≠ 48 := fun z => h0 (Int32.toInt_inj.mp (z.trans a1.symm))
        have ev : (chr P n q - 48).toInt = (chr P n q).toInt - 48 := by
          rw [Int32.toInt_sub, a1]
          exact Int.bmod_eq_of_le (by omega) (by omega)
        have e2 : rl P n 4 0 q = rl P n 3 (chr P n q - 48) (q + 1) := by
          show (if dgn P n (q, false) = true then rl P n 3 (10 * 0 + (chr P n q - 48)) (q + 1) else (0, q)) = _
          rw [dgn_nx, h, if_pos rfl, show (10 * 0 + (chr P n q - 48) : Int32) = chr P n q - 48 by grind]
        have e3 := rl_nml (P := P) (n := n) 3 (chr P n q - 48) (q + 1) 9 (by omega) (by omega) (by omega)
        show ((rl P n 4 0 q).1, (rl P n 4 0 q).2, false).2 = (nml P n 3 (chr P n q - 48) (q + 1, false)).2 ∧ _
        rw [e3, e2]
        exact ⟨rfl, fun _ => rfl⟩
  · rw [nm_true]
    exact ⟨rfl, fun z => by cases z⟩
