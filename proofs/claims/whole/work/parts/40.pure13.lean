/-! Texts: the class's walk is the model's -/
theorem mg_s {P : Nat → Int32} {n r p : Nat} : mg P n (r + 1) p = if (mo P n p).1.2 = true then ((mo P n p).1, chr P n p, (mo P n p).2.1, (mo P n p).2.2.1, (mo P n p).2.2.2) else if (mo P n p).1.1 < n then (if (sg P n 59 59 (mo P n p).1).2 = true then (sg P n 59 59 (mo P n p).1, chr P n p, (mo P n p).2.1, (mo P n p).2.2.1, (mo P n p).2.2.2) else mg P n r (sg P n 59 59 (mo P n p).1).1) else ((mo P n p).1, chr P n p, (mo P n p).2.1, (mo P n p).2.2.1, (mo P n p).2.2.2) := rfl
theorem ck_s {P : Nat → Int32} {n r : Nat} {z : Nat × Bool} {F : cF} : ck P n (r + 1) z F = if z.2 = true then (z, F) else if z.1 < n then ck P n r (rnx P n z.1 F).1 (rnx P n z.1 F).2 else (z, F) := rfl
theorem ck_stop {P : Nat → Int32} {n r : Nat} {z : Nat × Bool} {F : cF} (h : z.2 = true) : ck P n r z F = (z, F) := by
  cases r with
  | zero => rfl
  | succ r => rw [ck_s, if_pos h]
theorem ck_end {P : Nat → Int32} {n r : Nat} {z : Nat × Bool} {F : cF} (h : ¬ z.1 < n) : ck P n r z F = (z, F) := by
  cases r with
  | zero => rfl
  | succ r =>
    rw [ck_s]
    by_cases q : z.2 = true
    · rw [if_pos q]
    · rw [if_neg q, if_neg h]
theorem nt_f {b : Bool} (h : ¬ b = true) : b = false := by cases b; rfl; exact absurd rfl h
theorem rnx_e {P : Nat → Int32} {n : Nat} {z : Nat × Bool} {F : cF} (h0 : ¬ z.1 = 0) (hz : ¬ z.2 = true) : rnx P n z.1 F = if (sg P n 59 59 z).2 = true then (sg P n 59 59 z, F) else (crs P n (sg P n 59 59 z).1, crf P n (sg P n 59 59 z).1 F) := by
  obtain ⟨a, b⟩ := z
  have hb : b = false := nt_f hz
  subst hb
  unfold rnx
  rw [if_neg h0]
theorem ck_mg {P : Nat → Int32} {n : Nat} : ∀ (r p : Nat) (F : cF), n + 1 ≤ p + r → p ≤ n → (mg P n r p).1 = (ck P n (r - 1) (crs P n p) F).1
  | 0, p, F, h1, h2 => by omega
  | r + 1, p, F, h1, h2 => by
    have hb := mo_bd (P := P) h2
    rw [mg_s, crs_mo, Nat.add_sub_cancel]
    by_cases c1 : (mo P n p).1.2 = true
    · rw [if_pos c1, ck_stop c1]
    · have hb2 := hb.2 (nt_f c1)
      rw [if_neg c1]
      by_cases c2 : (mo P n p).1.1 < n
      · rw [if_pos c2]
        obtain ⟨r', rfl⟩ : ∃ r', r = r' + 1 := ⟨r - 1, by omega⟩
        have er := rnx_e (P := P) (n := n) (z := (mo P n p).1) (F := F) (by omega) c1
        have hs := sg_bd (P := P) (n := n) (a := 59) (b := 59) (q := (mo P n p).1) (by decide) hb.1
        rw [ck_s, if_neg c1, if_pos c2, er]
        by_cases c3 : (sg P n 59 59 (mo P n p).1).2 = true
        · rw [if_pos c3, if_pos c3, ck_stop c3]
        · rw [if_neg c3, if_neg c3]
          exact ck_mg (r' + 1) _ _ (by omega) hs.2
      · rw [if_neg c2, ck_end c2]
theorem cfp_mg (P : Nat → Int32) (n : Nat) (F : cF) : (cfp P n F).1 = (mg P n (n + 1) 0).1 := (ck_mg (P := P) (n := n) (n + 1) 0 (crf P n 0 F) (by omega) (by omega)).symm
theorem i_fau (P : Nat → Int32) (n : Nat) (F : cF) : cfE P n F = m_fau P n := by
  unfold cfE m_fau
  rw [cfp_mg]
theorem mg_bd {P : Nat → Int32} {n : Nat} : ∀ (r p : Nat), p ≤ n → (mg P n r p).1.1 ≤ n
  | 0, p, h => h
  | r + 1, p, h => by
    have hb := mo_bd (P := P) h
    have hs := sg_bd (P := P) (n := n) (a := 59) (b := 59) (q := (mo P n p).1) (by decide) hb.1
    rw [mg_s]
    by_cases c1 : (mo P n p).1.2 = true
    · rw [if_pos c1]; exact hb.1
    · rw [if_neg c1]
      by_cases c2 : (mo P n p).1.1 < n
      · rw [if_pos c2]
        by_cases c3 : (sg P n 59 59 (mo P n p).1).2 = true
        · rw [if_pos c3]; exact hs.2
        · rw [if_neg c3]; exact mg_bd r _ hs.2
      · rw [if_neg c2]; exact hb.1
/-! Orders -/
theorem nm_ok {P : Nat → Int32} {n : Nat} {q : Nat × Bool} (h : (nm P n q).2.2 = false) : q.2 = false := by
  obtain ⟨a, b⟩ := q
  cases b
  · rfl
  · rw [nm_true] at h; cases h
theorem sg_ok {P : Nat → Int32} {n : Nat} {a b : Int32} {q : Nat × Bool} (h : (sg P n a b q).2 = false) : q.2 = false ∧ ¬ inr (chr P n q.1) a b = 0 := by
  unfold sg at h
  by_cases c : q.2 = true
  · rw [if_pos c] at h; cases h
  · rw [if_neg c] at h
    refine ⟨nt_f c, fun z => ?_⟩
    rw [if_pos z] at h
    cases h
theorem inr_r {v a b : Int32} (h : ¬ inr v a b = 0) : a.toInt ≤ v.toInt ∧ v.toInt ≤ b.toInt := by
  unfold inr at h
  by_cases c1 : v < a
  · rw [if_pos c1] at h; exact absurd rfl h
  · rw [if_neg c1] at h
    by_cases c2 : b < v
    · rw [if_pos c2] at h; exact absurd rfl h
    · rw [ti_lt] at c1 c2; omega
theorem fl_ok {P : Nat → Int32} {n : Nat} {q : Nat × Bool} (h : (sg P n 48 49 q).2 = false) : fl P n q = chr P n q.1 - 48 := by
  obtain ⟨h1, h2⟩ := sg_ok h
  obtain ⟨h3, h4⟩ := inr_r h2
  rw [show (48 : Int32).toInt = 48 by decide] at h3
  rw [show (49 : Int32).toInt = 49 by decide] at h4
  unfold fl ptb
  have hc : ¬ q.2 = true := by rw [h1]; decide
  rw [if_neg hc]
  by_cases c : chr P n q.1 = 49
  · rw [if_pos c, if_pos rfl, c]; decide
  · rw [if_neg c, if_neg (by decide)]
    have e : chr P n q.1 = 48 := by
      have : (chr P n q.1).toInt ≠ 49 := fun z => c (by rw [ti_eq, z]; decide)
      rw [ti_eq, show (48 : Int32).toInt = 48 by decide]
      omega
    rw [e]; decide
theorem nml_nn {P : Nat → Int32} {n : Nat} : ∀ (r : Nat) (v : Int32) (q : Nat × Bool) (M : Int), 0 ≤ v.toInt → v.toInt ≤ M → (r = 0 ∨ (r = 1 ∧ M = 999) ∨ (r = 2 ∧ M = 99) ∨ (r = 3 ∧ M = 9)) → 0 ≤ (nml P n r v q).1.toInt
  | 0, v, q, M, h1, h2, h3 => h1
  | r + 1, v, q, M, h1, h2, h3 => by
    unfold nml
    by_cases c1 : 0 < v
    · rw [if_pos c1]
      by_cases c2 : nx P n 48 57 q = true
      · rw [if_pos c2]
        obtain ⟨a, b⟩ := q
        have hb : b = false := by
          cases b
          · rfl
          · exact absurd c2 (by rw [show nx P n 48 57 (a, true) = false from rfl]; decide)
        subst hb
        obtain ⟨d1, d2, d3⟩ := nx_sg c2
        rw [ti_lt, ti_0] at c1
        obtain ⟨s1, s2⟩ := dig_step c1 (by omega) d2 d3
        dsimp only
        rw [s2]
        exact nml_nn r _ _ (10 * M + 9) (by rw [s1]; omega) (by rw [s1]; omega) (by omega)
      · rw [if_neg c2]; exact h1
    · rw [if_neg c1]; exact h1
theorem nm_nn {P : Nat → Int32} {n : Nat} {q : Nat × Bool} (h : (nm P n q).2.2 = false) : 0 ≤ (nm P n q).1 := by
  have h1 := nm_ok h
  obtain ⟨a, b⟩ := q
  have h1 : b = false := h1
  subst h1
  rw [ti_le, ti_0]
  unfold nm at h ⊢
  cases hx : nx P n 48 57 (a, false)
  · rw [nx_sgf hx] at h
    exfalso
    have e : (nml P n 3 (chr P n a - 48) (a, true)).2 = (a, true) := by
      unfold nml
      split
      · rw [show nx P n 48 57 (a, true) = false from rfl, if_neg (by decide)]
      · rfl
    dsimp only at h
    rw [e] at h
    cases h
  · obtain ⟨d1, d2, d3⟩ := nx_sg hx
    have e : (chr P n a - 48).toInt = (chr P n a).toInt - 48 := by
      rw [ti_sub (by rw [show (48 : Int32).toInt = 48 by decide]; omega) (by rw [show (48 : Int32).toInt = 48 by decide]; omega), show (48 : Int32).toInt = 48 by decide]
    exact nml_nn 3 _ _ 9 (by dsimp only; rw [e]; omega) (by dsimp only; rw [e]; omega) (by omega)
theorem mwf_0 {g : Nat → Int32} {x d u : Int32} : (0 ≤ m_wf g x d u) ↔ m_wf g x d u = 0 := by
  unfold m_wf
  repeat' split
  all_goals decide
theorem mcf_0 {g : Nat → Int32} {x y : Int32} : (0 ≤ m_cf g x y) ↔ m_cf g x y = 0 := by
  unfold m_cf
  repeat' split
  all_goals decide
theorem mrf_0 {g : Nat → Int32} {x y z : Int32} : (0 ≤ m_rf g x y z) ↔ m_rf g x y z = 0 := by
  unfold m_rf
  repeat' split
  all_goals decide
