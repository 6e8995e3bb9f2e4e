/-! Splices -/
theorem ah_eq {a o : Int32} (ho : 0 < o) : mx2 0 (mn2 o a) = m_ah a o := by
  unfold mx2 mn2 m_ah
  by_cases h1 : 0 < a
  · rw [if_pos h1]
    by_cases h2 : o ≤ a
    · rw [if_pos h2, if_neg (Int32.not_lt.mpr h2), if_pos ho]
    · rw [if_neg h2, if_pos (Int32.not_le.mp h2), if_pos h1]
  · rw [if_neg h1]
    have h2 : a < o := by rw [ti_lt, ti_0] at h1 ho; rw [ti_lt]; omega
    rw [if_pos h2, if_neg h1]
theorem sv_at {g : Nat → Int32} {x o : Int32} (ho : 0 < o) : (∀ k, k ≠ 0 → k ≠ 3 → k ≠ 4 → k ≠ 5 → (s_sv g x o).2 k = g k) ∧ (s_sv g x o).2 0 = g 0 - o ∧ (s_sv g x o).2 3 = g 3 - m_ah (g 3 - x) o ∧ (s_sv g x o).2 4 = g 4 + 1 ∧ (s_sv g x o).2 5 = g 5 + o ∧ (s_sv g x o).1 = g 0 - o := by
  unfold s_sv
  dsimp only
  refine ⟨fun k q0 q3 q4 q5 => ?_, ?_, ?_, ?_, ?_, ?_⟩
  · rw [pk_un q5, pk_un q4, pk_un q3, pk_un q0]
  · rw [pk_un (by omega), pk_un (by omega), pk_un (by omega), pk_us]
  · rw [pk_un (by omega), pk_un (by omega), pk_us, pk_un (by omega), ah_eq ho]
  · rw [pk_un (by omega), pk_us, pk_un (by omega), pk_un (by omega)]
  · rw [pk_us, pk_un (by omega), pk_un (by omega), pk_un (by omega)]
  · rw [pk_un (by omega), pk_un (by omega), pk_un (by omega), pk_us]
theorem msv_at {g : Nat → Int32} {x o : Int32} : (∀ k, k ≠ 0 → k ≠ 3 → k ≠ 4 → k ≠ 5 → m_sv g x o k = g k) ∧ m_sv g x o 0 = g 0 - o ∧ m_sv g x o 3 = g 3 - m_ah (g 3 - x) o ∧ m_sv g x o 4 = g 4 + 1 ∧ m_sv g x o 5 = g 5 + o := by
  unfold m_sv
  try dsimp only
  refine ⟨fun k q0 q3 q4 q5 => ?_, ?_, ?_, ?_, ?_⟩
  · rw [pk_un q3, pk_un q5, pk_un q4, pk_un q0]
  · rw [pk_un (by omega), pk_un (by omega), pk_un (by omega), pk_us]
  · rw [pk_us, pk_un (by omega), pk_un (by omega), pk_un (by omega)]
  · rw [pk_un (by omega), pk_un (by omega), pk_us, pk_un (by omega)]
  · rw [pk_un (by omega), pk_us, pk_un (by omega), pk_un (by omega)]
theorem sv_eq {g : Nat → Int32} {x o : Int32} (ho : 0 < o) : m_sv g x o = (s_sv g x o).2 ∧ m_sv g x o 0 = (s_sv g x o).1 := by
  obtain ⟨a1, a2, a3, a4, a5, a6⟩ := sv_at (g := g) (x := x) ho
  obtain ⟨b1, b2, b3, b4, b5⟩ := msv_at (g := g) (x := x) (o := o)
  refine ⟨funext fun k => ?_, by rw [b2, a6]⟩
  by_cases q0 : k = 0
  · subst q0; rw [a2, b2]
  by_cases q3 : k = 3
  · subst q3; rw [a3, b3]
  by_cases q4 : k = 4
  · subst q4; rw [a4, b4]
  by_cases q5 : k = 5
  · subst q5; rw [a5, b5]
  rw [a1 k q0 q3 q4 q5, b1 k q0 q3 q4 q5]
theorem msd_eq {g : Nat → Int32} {r : Nat} {o : Int32} : m_sd g r o = s_sd g r o := by
  unfold m_sd s_sd
  rw [show r / 20 * 20 + r % 20 = r by omega]
/-- data taken out of a block -/
theorem i_sd {g : Nat → Int32} {f j : Nat} {o : Int32} (h : Inv g) (hf : f < 2) (hj : j < bn g f) (o1 : 1 ≤ o.toInt) (o2 : o.toInt ≤ 51) (hd : o.toInt + 1 ≤ (g (10 + 4 * (f * 20 + j) + 0)).toInt) :
    Inv (s_sd g (f * 20 + j) o) ∧ (∀ k, k < 10 → s_sd g (f * 20 + j) o k = g k) ∧ fI (s_sd g (f * 20 + j) o) 0 (bn g 0) + fI (s_sd g (f * 20 + j) o) 1 (bn g 1) = fI g 0 (bn g 0) + fI g 1 (bn g 1) - o.toInt := by
  obtain ⟨r1, r2, r3, r4, r5, r6⟩ := h.rows f j hf hj
  have hn := i_n20 h hf
  obtain ⟨g', he⟩ : ∃ q, q = s_sd g (f * 20 + j) o := ⟨_, rfl⟩
  rw [← he]
  unfold s_sd at he
  have ku : ∀ k, k ≠ 10 + 4 * (f * 20 + j) + 0 → k ≠ 10 + 4 * (f * 20 + j) + 1 → g' k = g k := fun k q1 q2 => by rw [he, pk_un q2, pk_un q1]
  have k0 : (g' (10 + 4 * (f * 20 + j) + 0)).toInt = (g (10 + 4 * (f * 20 + j) + 0)).toInt - o.toInt := by
    rw [he, pk_un (by omega), pk_us, ti_sub (by omega) (by omega)]
  have k1 : g' (10 + 4 * (f * 20 + j) + 1) = 0 := by rw [he, pk_us]
  have kb : ∀ i, i < 2 → bn g' i = bn g i := fun i hi => by unfold bn; rw [ku (8 + i) (by omega) (by omega)]
  have ew : ∀ r, r ≠ f * 20 + j → wI g' r = wI g r := fun r q => by unfold wI; rw [ku _ (by omega) (by omega), ku _ (by omega) (by omega)]
  have ewj : wI g' (f * 20 + j) = wI g (f * 20 + j) - o.toInt := by unfold wI; rw [k0, ku _ (by omega) (by omega)]; omega
  have e0 : ∀ i, i < 2 → ∀ n, n ≤ 20 → (i = f → n ≤ j) → fI g' i n = fI g i n := fun i hi n => by
    induction n with
    | zero => intros; rfl
    | succ n ih =>
      intro q1 q2
      show fI g' i n + wI g' (i * 20 + n) = fI g i n + wI g (i * 20 + n)
      have q3 : i * 20 + n ≠ f * 20 + j := by
        by_cases q : i = f
        · have := q2 q; subst q; omega
        · omega
      rw [ih (by omega) (fun q => by have := q2 q; omega), ew _ q3]
  have e1 : ∀ n, n ≤ 20 → j < n → fI g' f n = fI g f n - o.toInt := fun n => by
    induction n with
    | zero => intro _ q; omega
    | succ n ih =>
      intro q1 q2
      show fI g' f n + wI g' (f * 20 + n) = fI g f n + wI g (f * 20 + n) - o.toInt
      by_cases q : n = j
      · subst q
        rw [e0 f hf n (by omega) (fun _ => Nat.le_refl _), ewj]
        omega
      · rw [ih (by omega) (by omega), ew _ (by omega)]
        omega
  have hB : BN g' := fun i hi => by rw [kb i hi, ku (8 + i) (by omega) (by omega)]; exact h.bN i hi
  have n0 := i_n20 h (f := 0) (by omega)
  have n1 := i_n20 h (f := 1) (by omega)
  have es : fI g' 0 (bn g 0) + fI g' 1 (bn g 1) = fI g 0 (bn g 0) + fI g 1 (bn g 1) - o.toInt := by
    rcases (show f = 0 ∨ f = 1 by omega) with rfl | rfl
    · rw [e1 _ hn hj, e0 1 (by omega) _ n1 (fun q => by omega)]; omega
    · rw [e1 _ hn hj, e0 0 (by omega) _ n0 (fun q => by omega)]; omega
  have hg := h.gap
  refine ⟨?_, fun k hk => ku k (by omega) (by omega), es⟩
  unfold Inv
  rw [ku 0 (by omega) (by omega), ku 1 (by omega) (by omega), ku 2 (by omega) (by omega), ku 3 (by omega) (by omega), ku 4 (by omega) (by omega), kb 0 (by omega), kb 1 (by omega)]
  refine ⟨hB, h.L1, h.L2, h.G1, h.G2, h.M1, h.M2, h.H1, h.H2, h.S1, h.S2, fun i b hi hb => ?_, by omega⟩
  rw [kb i hi] at hb
  have hni := i_n20 h hi
  by_cases q : i = f ∧ b = j
  · obtain ⟨rfl, rfl⟩ := q
    rw [k1, ti_0, ku (10 + 4 * (i * 20 + b) + 2) (by omega) (by omega)]
    omega
  · have q3 : i * 20 + b ≠ f * 20 + j := by
      by_cases q2 : i = f
      · subst q2; omega
      · omega
    rw [ku _ (by omega) (by omega), ku _ (by omega) (by omega), ku _ (by omega) (by omega)]
    exact h.rows i b hi hb
/-- the tape becomes shorter -/
theorem i_sv {g : Nat → Int32} {x o : Int32} (h : Inv g) (x0 : 0 ≤ x.toInt) (o1 : 1 ≤ o.toInt) (o2 : o.toInt ≤ 51) (hx : x.toInt + o.toInt ≤ (g 0).toInt) (hg : fI g 0 (bn g 0) + fI g 1 (bn g 1) + (g 1).toInt ≤ (g 0).toInt - o.toInt) (h4 : (g 4).toInt < 9) : 0 ≤ (s_sv g x o).1 ∧ Inv (s_sv g x o).2 := by
  have ho : 0 < o := by rw [ti_lt, ti_0]; omega
  have a1 := h.L1; have a2 := h.L2; have a3 := h.H1; have a4 := h.H2; have a5 := h.S1
  obtain ⟨ku, k0, k3, k4, k5, k6⟩ := sv_at (g := g) (x := x) ho
  generalize (s_sv g x o).2 = g' at ku k0 k3 k4 k5 ⊢
  have t0 : (g 0 - o).toInt = (g 0).toInt - o.toInt := ti_sub (by omega) (by omega)
  have t4 : (g 4 + 1).toInt = (g 4).toInt + 1 := by rw [ti_add (by rw [ti_1]; omega) (by rw [ti_1]; omega), ti_1]
  have ta : (g 3 - x).toInt = (g 3).toInt - x.toInt := ti_sub (by omega) (by omega)
  have t3 : 0 ≤ (g 3 - m_ah (g 3 - x) o).toInt ∧ (g 3 - m_ah (g 3 - x) o).toInt ≤ (g 0).toInt - o.toInt := by
    unfold m_ah
    by_cases q1 : 0 < g 3 - x
    · rw [if_pos q1]
      rw [ti_lt, ti_0, ta] at q1
      by_cases q2 : o ≤ g 3 - x
      · rw [if_pos q2]
        rw [ti_le, ta] at q2
        rw [ti_sub (by omega) (by omega)]
        omega
      · rw [if_neg q2]
        rw [ti_le, ta] at q2
        rw [ti_sub (by omega) (by omega), ta]
        omega
    · rw [if_neg q1]
      rw [ti_lt, ti_0, ta] at q1
      rw [ti_sub (by rw [ti_0]; omega) (by rw [ti_0]; omega), ti_0]
      omega
  have kb : ∀ i, i < 2 → bn g' i = bn g i := fun i hi => by unfold bn; rw [ku (8 + i) (by omega) (by omega) (by omega) (by omega)]
  have ew : ∀ r, wI g' r = wI g r := fun r => by unfold wI; rw [ku _ (by omega) (by omega) (by omega) (by omega), ku _ (by omega) (by omega) (by omega) (by omega)]
  have ef : ∀ i n, fI g' i n = fI g i n := fun i n => by
    induction n with
    | zero => rfl
    | succ n ih => show fI g' i n + wI g' _ = fI g i n + wI g _; rw [ih, ew]
  have hB : BN g' := fun i hi => by rw [kb i hi, ku (8 + i) (by omega) (by omega) (by omega) (by omega)]; exact h.bN i hi
  have f0 := (i_all h (f := 0) (by decide)).2
  have f1 := (i_all h (f := 1) (by decide)).2
  have g1 := h.G1
  refine ⟨by rw [k6, ti_le, ti_0, t0]; omega, ?_⟩
  unfold Inv
  rw [k0, k3, k4, ku 1 (by omega) (by omega) (by omega) (by omega), ku 2 (by omega) (by omega) (by omega) (by omega), kb 0 (by omega), kb 1 (by omega), ef, ef, t0, t4]
  refine ⟨hB, by omega, by omega, h.G1, h.G2, h.M1, h.M2, t3.1, t3.2, by omega, by omega, fun i b hi hb => ?_, by omega⟩
  rw [kb i hi] at hb
  rw [ku _ (by omega) (by omega) (by omega) (by omega), ku _ (by omega) (by omega) (by omega) (by omega), ku _ (by omega) (by omega) (by omega) (by omega)]
  exact h.rows i b hi hb
theorem i_spl {g : Nat → Int32} {x y : Int32} (h : Inv g) : m_spl g x y = ((s_spl g x y).1, (s_spl g x y).2, decide (0 ≤ (s_spl g x y).1)) ∧ Inv (s_spl g x y).2 := by
  have a1 := h.L1; have a2 := h.L2; have a3 := h.S1; have a4 := h.S2
  have n1 : ¬ ((1 : Int32) = 0) := by decide
  have z2 : ¬ (0 : Int32) ≤ -2 := by decide
  have z4 : ¬ (0 : Int32) ≤ -4 := by decide
  have z5 : ¬ (0 : Int32) ≤ -5 := by decide
  unfold m_spl s_spl
  rw [inr_le, inr_le]
  by_cases h1 : x < 0
  · simp only [h1, z2, ↓reduceIte]; first | exact ⟨rfl, h⟩ | exact ⟨trivial, h⟩
  · by_cases h2 : g 0 ≤ x
    · have h2' : ¬ x ≤ g 0 - 1 := by
        rw [ti_le] at h2
        rw [ti_le, ti_sub (by rw [ti_1]; omega) (by rw [ti_1]; omega), ti_1]; omega
      simp only [h1, h2, h2', z2, ↓reduceIte]; first | exact ⟨rfl, h⟩ | exact ⟨trivial, h⟩
    · have x1 : 0 ≤ x.toInt := by rw [ti_lt, ti_0] at h1; omega
      have x2 : x.toInt < (g 0).toInt := by rw [ti_le] at h2; omega
      have h2' : x ≤ g 0 - 1 := by
        rw [ti_le, ti_sub (by rw [ti_1]; omega) (by rw [ti_1]; omega), ti_1]; omega
      by_cases h3 : y < 1
      · simp only [h1, h2, h2', h3, n1, z2, ↓reduceIte]; first | exact ⟨rfl, h⟩ | exact ⟨trivial, h⟩
      · by_cases h4 : y ≤ 50
        · have y1 : 1 ≤ y.toInt := by rw [ti_lt, ti_1] at h3; omega
          have y2 : y.toInt ≤ 50 := by rw [ti_le, show (50 : Int32).toInt = 50 by decide] at h4; exact h4
          have xy : (x + y).toInt = x.toInt + y.toInt := ti_add (by omega) (by omega)
          obtain ⟨o, ho⟩ : ∃ o, o = y + 1 := ⟨_, rfl⟩
          have oI : o.toInt = y.toInt + 1 := by rw [ho, ti_add (by rw [ti_1]; omega) (by rw [ti_1]; omega), ti_1]
          have o0 : 0 < o := by rw [ti_lt, ti_0]; omega
          have e6 : x + y + 1 = x + o := by rw [ho]; grind
          have xo : (x + o).toInt = x.toInt + o.toInt := ti_add (by omega) (by omega)
          rw [m_wi_e h (by omega) (by omega), e6, ← ho]
          simp only [h1, h2, h2', h3, h4, n1, ↓reduceIte]
          unfold s_s2 s_k1 s_k2
          by_cases c1 : iig g x (x + o) = 0
          · by_cases c2 : rwd g x (x + o) < 0
            · have e5 : (-6 : Int32) = -6 := rfl
              have f1 : ¬ (false = true ∨ false = true) := by decide
              simp only [c1, c2, f1, z5, ↓reduceIte]; first | exact ⟨rfl, h⟩ | exact ⟨trivial, h⟩
            · obtain ⟨f, j, hf, hj, er, d1, d2⟩ := rwd_hit c2
              have hn := i_n20 h hf
              obtain ⟨e1, e2, e3⟩ := i_fd h hf hj
              have hm := h.rows f j hf hj
              obtain ⟨l1, l2, l3⟩ := i_lo h hf hj
              have ew : wI g (f * 20 + j) = (g (10 + 4 * (f * 20 + j) + 0)).toInt + 2 * (g (10 + 4 * (f * 20 + j) + 2)).toInt := rfl
              have k1 : ¬ nI (f * 20 + j) = -6 := fun q => by
                have := congrArg Int32.toInt q
                rw [nI_toInt (by omega), show (-6 : Int32).toInt = -6 by decide] at this
                omega
              have k2 : ¬ nI (f * 20 + j) < 0 := nI_pos (by omega)
              have k3 : 0 ≤ nI (f * 20 + j) := nI_pos' (by omega)
              have k4 : (nI (f * 20 + j)).toNatClampNeg = f * 20 + j := nI_clamp (by omega)
              rw [ti_lt] at d1 d2
              rw [e1] at d1
              rw [e2, xo] at d2
              rw [er]
              simp only [c1, k1, k2, k3, k4, ↓reduceIte]
              rw [show (f * 20 + j) / 20 * 20 + (f * 20 + j) % 20 = f * 20 + j by omega, msd_eq]
              have tdo : (g (10 + 4 * (f * 20 + j) + 0) - o).toInt = (g (10 + 4 * (f * 20 + j) + 0)).toInt - o.toInt := ti_sub (by omega) (by omega)
              by_cases c3 : g (10 + 4 * (f * 20 + j) + 0) - o < 1
              · have c4 : ¬ 1 ≤ g (10 + 4 * (f * 20 + j) + 0) - o := Int32.not_le.mpr c3
                have f1 : ¬ (false = true ∨ false = true) := by decide
                simp only [c3, c4, f1, z5, ↓reduceIte]; first | exact ⟨rfl, h⟩ | exact ⟨trivial, h⟩
              · have c4 : 1 ≤ g (10 + 4 * (f * 20 + j) + 0) - o := Int32.not_lt.mp c3
                have f1 : (true = true ∨ false = true) := by decide
                simp only [c3, c4, f1, ↓reduceIte]
                by_cases c5 : g 4 = 9
                · have c6 : ¬ g 4 < 9 := by rw [c5]; decide
                  simp only [c5, c6, z4, ↓reduceIte]
                  have c7 : ¬ (9 : Int32) < 9 := by decide
                  simp only [c7, z4, ↓reduceIte]; first | exact ⟨rfl, h⟩ | exact ⟨trivial, h⟩
                · have c6' : (g 4).toInt < 9 := by
                    rcases Int.lt_or_eq_of_le a4 with q | q
                    · exact q
                    · exact absurd (by rw [ti_eq, q]; decide) c5
                  have c6 : g 4 < 9 := by rw [ti_lt, show (9 : Int32).toInt = 9 by decide]; exact c6'
                  rw [ti_le, ti_1, tdo] at c4
                  obtain ⟨s1, s2, s3⟩ := i_sd h hf hj (by omega) (by omega) (o := o) (by omega)
                  have sb : ∀ i, i < 2 → bn (s_sd g (f * 20 + j) o) i = bn g i := fun i hi => by unfold bn; rw [s2 (8 + i) (by omega)]
                  have hg := h.gap
                  obtain ⟨t1, t2⟩ := i_sv (x := x) (o := o) s1 x1 (by omega) (by omega) (by rw [s2 0 (by omega)]; omega) (by rw [sb 0 (by omega), sb 1 (by omega), s3, s2 0 (by omega), s2 1 (by omega)]; omega) (by rw [s2 4 (by omega)]; exact c6')
                  obtain ⟨u1, u2⟩ := sv_eq (g := s_sd g (f * 20 + j) o) (x := x) o0
                  simp only [c5, c6, true_or, or_true, ↓reduceIte]
                  rw [u2, u1, decide_eq_true t1]
                  exact ⟨rfl, t2⟩
          · have c2 := gap_no h (show x < x + o by rw [ti_lt, xo]; omega) c1
            have k1 : ¬ ((-1 : Int32) = -6) := by decide
            have k2 : ¬ (0 : Int32) ≤ -1 := by decide
            have hgp := i_gp h
            have f0 := (i_all h (f := 0) (by decide)).2
            have f1 := (i_all h (f := 1) (by decide)).2
            have hgap := h.gap
            have hG := h.G1
            have tgo : (gp g - o).toInt = (gp g).toInt - o.toInt := ti_sub (by omega) (by omega)
            simp only [c1, c2, k1, k2, ↓reduceIte]
            by_cases c3 : gp g - o < g 1
            · have c4 : ¬ g 1 ≤ gp g - o := Int32.not_le.mpr c3
              have f1 : ¬ (false = true ∨ false = true) := by decide
              simp only [c3, c4, f1, z5, ↓reduceIte]; first | exact ⟨rfl, h⟩ | exact ⟨trivial, h⟩
            · have c4 : g 1 ≤ gp g - o := Int32.not_lt.mp c3
              have f2 : (false = true ∨ true = true) := by decide
              simp only [c3, c4, f2, ↓reduceIte]
              by_cases c5 : g 4 = 9
              · have c6 : ¬ g 4 < 9 := by rw [c5]; decide
                simp only [c5, c6, z4, ↓reduceIte]
                have c7 : ¬ (9 : Int32) < 9 := by decide
                simp only [c7, z4, ↓reduceIte]; first | exact ⟨rfl, h⟩ | exact ⟨trivial, h⟩
              · have c6' : (g 4).toInt < 9 := by
                  rcases Int.lt_or_eq_of_le a4 with q | q
                  · exact q
                  · exact absurd (by rw [ti_eq, q]; decide) c5
                have c6 : g 4 < 9 := by rw [ti_lt, show (9 : Int32).toInt = 9 by decide]; exact c6'
                have d2 : (x + o).toInt ≤ (en g 1).toInt := by
                  unfold iig at c1
                  by_cases q : x < en g 0
                  · rw [if_pos q] at c1; exact absurd rfl c1
                  · rw [if_neg q] at c1
                    by_cases q2 : en g 1 < x + o
                    · rw [if_pos q2] at c1; exact absurd rfl c1
                    · rw [ti_lt] at q2; omega
                have d3 := (i_en h (f := 1) (by omega)).2
                rw [ti_le, tgo] at c4
                obtain ⟨t1, t2⟩ := i_sv (x := x) (o := o) h x1 (by omega) (by omega) (by omega) (by omega) c6'
                obtain ⟨u1, u2⟩ := sv_eq (g := g) (x := x) o0
                simp only [c5, c6, true_or, or_true, ↓reduceIte]
                rw [u2, u1, decide_eq_true t1]
                exact ⟨rfl, t2⟩
        · simp only [h1, h2, h2', h3, h4, n1, z2, ↓reduceIte]; first | exact ⟨rfl, h⟩ | exact ⟨trivial, h⟩
