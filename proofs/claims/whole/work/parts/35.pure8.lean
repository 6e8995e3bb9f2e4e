theorem bnv {g : Nat → Int32} {f : Nat} {x : Int32} : bn (tv g x) f = bn g f := by unfold bn; rw [tv_un (by omega) (by omega)]
theorem i_wr {g : Nat → Int32} {f : Nat} {d u : Int32} (h : Inv g) (hf : f < 2) (hb : bn g f < 20) (d1 : 1 ≤ d.toInt) (d2 : d.toInt ≤ 99) (u1 : 0 ≤ u.toInt) (u2 : u.toInt ≤ 9999) (hg : (g 1).toInt ≤ (g 0).toInt - fI g 0 (bn g 0) - fI g 1 (bn g 1) - (d.toInt + 2 * (g 2).toInt)) : m_wr g f (bn g f) d u = s_wr g f (bn g f) d u ∧ Inv (s_wr g f (bn g f) d u) := by
  have a2 := h.L2
  obtain ⟨e1, e2⟩ := i_en h hf
  have hv : Inv (tv g (en g f)) := i_tv h e1 e2
  have ew : ∀ r, wI (tv g (en g f)) r = wI g r := fun r => by unfold wI; rw [tv_un (by omega) (by omega), tv_un (by omega) (by omega)]
  have ef : ∀ j n, fI (tv g (en g f)) j n = fI g j n := fun j n => by
    induction n with
    | zero => rfl
    | succ n ih => show fI (tv g (en g f)) j n + wI _ _ = fI g j n + wI g _; rw [ih, ew]
  have ha := i_app (z := 0) hv hf (by rw [bnv]; exact hb) d1 d2 u1 u2 (by rw [bnv, bnv, ef, ef, tv_un (by omega) (by omega), tv_un (by omega) (by omega), tv_un (by omega) (by omega)]; exact hg)
  rw [bnv] at ha
  have hu2 : ∀ (x : Nat → Int32) (r : Nat) (p q : Int32), upd (upd x (10 + 4 * r + 0) p) (10 + 4 * r + 1) q 2 = x 2 := fun x r p q => by rw [pk_un (by omega), pk_un (by omega)]
  unfold m_wr s_wr
  dsimp only
  rw [i_tvm h e1 (by omega), hu2]
  obtain ⟨e3, e4⟩ := i_en ha hf
  have a3 := ha.L2
  rw [i_tvm ha e3 (by omega)]
  exact ⟨rfl, i_tv ha e3 e4⟩
theorem i_add {g : Nat → Int32} {x d u : Int32} (h : Inv g) : m_add g x d u = ((s_add g x d u).1, (s_add g x d u).2, decide (0 ≤ (s_add g x d u).1)) ∧ Inv (s_add g x d u).2 := by
  have n1 : ¬ ((1 : Int32) = 0) := by decide
  have z1 : ¬ (0 : Int32) ≤ -1 := by decide
  have z2 : ¬ (0 : Int32) ≤ -2 := by decide
  have z4 : ¬ (0 : Int32) ≤ -4 := by decide
  have z5 : ¬ (0 : Int32) ≤ -5 := by decide
  have z0 : (0 : Int32) ≤ 0 := by decide
  unfold m_add s_add m_wf
  rw [inr_le, inr_le]
  by_cases h1 : isf x = 0
  · simp only [h1, z1, ↓reduceIte]; first | exact ⟨rfl, h⟩ | exact ⟨trivial, h⟩
  · obtain ⟨f, hf, rfl⟩ := isf_of h1
    have hn := i_n20 h hf
    rw [nI_clamp (by omega)]
    by_cases h2 : d < 1
    · simp only [h1, h2, z2, ↓reduceIte]; first | exact ⟨rfl, h⟩ | exact ⟨trivial, h⟩
    · by_cases h3 : d ≤ 99
      · have h3' : ¬ 99 < d := Int32.not_lt.mpr h3
        by_cases h4 : u < 0
        · simp only [h1, h2, h3, h3', h4, n1, z2, ↓reduceIte]; first | exact ⟨rfl, h⟩ | exact ⟨trivial, h⟩
        · by_cases h5 : u ≤ 9999
          · by_cases h6 : bn g f = 20
            · have q1 : ¬ nI (bn g f) < 20 := by rw [h6]; decide
              have q2 : nI (bn g f) = 20 := by rw [h6]; rfl
              simp only [h1, h2, h3, h3', h4, h5, n1, q1, q2, z4, ↓reduceIte]
              first | exact ⟨rfl, h⟩ | exact ⟨trivial, h⟩
            · have q1 : nI (bn g f) < 20 := (nI_ltI (b := 20) (by omega) (by omega)).mpr (by omega)
              have q2 : ¬ nI (bn g f) = 20 := fun q => h6 ((nI_eq (b := 20) (by omega) (by omega)).mp q)
              have e5 : gp g - d - 2 * g 2 = gp g - (d + 2 * g 2) := by grind
              rw [e5]
              by_cases h7 : g 1 ≤ gp g - (d + 2 * g 2)
              · have b0 : (0 : Int32) ≤ nI (bn g f) := nI_le (a := 0) (by omega) (by omega)
                have d1 : 1 ≤ d.toInt := by rw [ti_lt, ti_1] at h2; omega
                have d2 : d.toInt ≤ 99 := by rw [ti_le, show (99 : Int32).toInt = 99 by decide] at h3; exact h3
                have u1 : 0 ≤ u.toInt := by rw [ti_lt, ti_0] at h4; omega
                have u2 : u.toInt ≤ 9999 := by rw [ti_le, show (9999 : Int32).toInt = 9999 by decide] at h5; exact h5
                have a1 := h.M1; have a2 := h.M2; have a3 := h.L1; have a4 := h.L2; have a5 := h.gap; have a6 := h.G1
                have f0 := (i_all h (f := 0) (by decide)).2; have f1 := (i_all h (f := 1) (by decide)).2
                have c2 := ti_mul2 (a := g 2) (by omega) (by omega)
                have c3 : (d + 2 * g 2).toInt = d.toInt + 2 * (g 2).toInt := by rw [ti_add (by omega) (by omega), c2]
                have h8 := ti_le.mp h7
                rw [ti_sub (by rw [i_gp h, c3]; omega) (by rw [i_gp h, c3]; omega), i_gp h, c3] at h8
                obtain ⟨w1, w2⟩ := i_wr (d := d) (u := u) h hf (by omega) d1 d2 u1 u2 h8
                simp only [h1, h2, h3, h3', h4, h5, h7, n1, q1, q2, z0, b0, ↓reduceIte, decide_true, w1]
                first | exact ⟨rfl, w2⟩ | exact ⟨trivial, w2⟩
              · simp only [h1, h2, h3, h3', h4, h5, h7, n1, q1, q2, z5, ↓reduceIte]
                first | exact ⟨rfl, h⟩ | exact ⟨trivial, h⟩
          · simp only [h1, h2, h3, h3', h4, h5, n1, z2, ↓reduceIte]; first | exact ⟨rfl, h⟩ | exact ⟨trivial, h⟩
      · have h3' : 99 < d := Int32.not_le.mp h3
        simp only [h1, h2, h3, h3', z2, ↓reduceIte]; first | exact ⟨rfl, h⟩ | exact ⟨trivial, h⟩
