/-! The nearest block -/
theorem i_trp {g : Nat → Int32} {f b : Nat} (h : Inv g) (hf : f < 2) (hb : b < bn g f) (w : Nat) : ¬ tr g f b w < 0 := by
  obtain ⟨h1, h2⟩ := i_sr h hf hb w
  obtain ⟨w1, w2, w3⟩ := i_w h hf hb
  have a2 := h.L2; have a3 := h.H1; have a4 := h.H2
  have e : (sr g f b w - g 3).toInt = (sr g f b w).toInt - (g 3).toInt := ti_sub (by omega) (by omega)
  have ha : 0 ≤ (ab (sr g f b w - g 3)).toInt ∧ (ab (sr g f b w - g 3)).toInt ≤ 2000 := by
    unfold ab
    by_cases q : 0 ≤ sr g f b w - g 3
    · rw [if_pos q]; rw [ti_le, ti_0] at q; omega
    · rw [if_neg q]; rw [ti_le, ti_0] at q
      rw [ti_sub (by rw [ti_0]; omega) (by rw [ti_0]; omega), ti_0]; omega
  unfold tr
  rw [ti_lt, ti_0, ti_add (by omega) (by omega), w1]
  omega
def nrel (g : Nat → Int32) (x : Int32) (q s : Int32 × Int32) : Prop := (q.1 = -6 ∧ s = (-1, -6)) ∨ ∃ k, k < 80 ∧ k / 2 % 20 < bn g (k / 40) ∧ q = (nI k, tr g (k / 40) (k / 2 % 20) (k % 2)) ∧ s = (tr g (k / 40) (k / 2 % 20) (k % 2), nsa g x (k / 40) (k / 2 % 20) (k % 2))
theorem nk6 {k : Nat} (hk : k < 80) : ¬ nI k = -6 := fun q => by
  have := congrArg Int32.toInt q
  rw [nI_toInt (by omega), show (-6 : Int32).toInt = -6 by decide] at this
  omega
theorem nrel_step {g : Nat → Int32} {x : Int32} {k : Nat} {q s : Int32 × Int32} (h : Inv g) (hk : k < 80) (hb : k / 2 % 20 < bn g (k / 40)) (hr : nrel g x q s) : nrel g x (mns g k q) (nst g x (k / 40) (k / 2 % 20) (k % 2) s) := by
  have hf : k / 40 < 2 := by omega
  have hn := i_n20 h hf
  have c0 : ¬ nI (bn g (k / 40)) ≤ nI (k / 2 % 20) := nI_ge hb (by omega)
  have et := i_tr h hf hb (k % 2)
  unfold mns nst
  rw [if_neg c0, et]
  rcases hr with ⟨h1, h2⟩ | ⟨j, j1, j2, j3, j4⟩
  · rw [if_pos h1, h2, if_pos (show ((-1 : Int32), (-6 : Int32)).1 < 0 by decide)]
    exact Or.inr ⟨k, hk, hb, rfl, rfl⟩
  · have p1 := i_trp h (show j / 40 < 2 by omega) j2 (j % 2)
    rw [j3, j4]
    dsimp only
    rw [if_neg (nk6 j1), if_neg p1]
    by_cases c1 : tr g (j / 40) (j / 2 % 20) (j % 2) ≤ tr g (k / 40) (k / 2 % 20) (k % 2)
    · rw [if_pos c1, if_pos c1]
      exact Or.inr ⟨j, j1, j2, rfl, rfl⟩
    · rw [if_neg c1, if_neg c1]
      exact Or.inr ⟨k, hk, hb, rfl, rfl⟩
theorem mns_skip {g : Nat → Int32} {k : Nat} {q : Int32 × Int32} (h : nI (bn g (k / 40)) ≤ nI (k / 2 % 20)) : mns g k q = q := if_pos h
theorem mnl_s {g : Nat → Int32} {r k : Nat} {q : Int32 × Int32} : mnl g (r + 1) k q = mnl g r (k + 1) (mns g k q) := rfl
theorem nsb_s {g : Nat → Int32} {x : Int32} {f k b : Nat} {q : Int32 × Int32} : nsb g x f (k + 1) b q = nsb g x f k (b + 1) (nst g x f b 1 (nst g x f b 0 q)) := rfl
theorem nrow {g : Nat → Int32} {x : Int32} (h : Inv g) {f : Nat} (hf : f < 2) (R : Nat) : ∀ (r b : Nat), b + r = 20 → ∀ q s, nrel g x q s → ∃ q', mnl g (2 * r + R) (f * 40 + 2 * b) q = mnl g R (f * 40 + 40) q' ∧ nrel g x q' (nsb g x f (bn g f - b) b s)
  | 0, b, hb, q, s, hr => by
    have hn := i_n20 h hf
    obtain rfl : b = 20 := by omega
    refine ⟨q, ?_, ?_⟩
    · rw [show 2 * 0 + R = R by omega]
    · rw [show bn g f - 20 = 0 by omega]; exact hr
  | r + 1, b, hb, q, s, hr => by
    have hn := i_n20 h hf
    rw [show 2 * (r + 1) + R = (2 * r + R) + 1 + 1 by omega, mnl_s, mnl_s]
    have e1 : (f * 40 + 2 * b) / 40 = f := by omega
    have e2 : (f * 40 + 2 * b) / 2 % 20 = b := by omega
    have e3 : (f * 40 + 2 * b) % 2 = 0 := by omega
    have e4 : (f * 40 + 2 * b + 1) / 40 = f := by omega
    have e5 : (f * 40 + 2 * b + 1) / 2 % 20 = b := by omega
    have e6 : (f * 40 + 2 * b + 1) % 2 = 1 := by omega
    by_cases hlt : b < bn g f
    · have r1 := nrel_step (k := f * 40 + 2 * b) h (by omega) (by rw [e1, e2]; exact hlt) hr
      have r2 := nrel_step (k := f * 40 + 2 * b + 1) h (by omega) (by rw [e4, e5]; exact hlt) r1
      rw [e1, e2, e3, e4, e5, e6] at r2
      obtain ⟨q', q1, q2⟩ := nrow h hf R r (b + 1) (by omega) _ _ r2
      refine ⟨q', q1, ?_⟩
      rw [show bn g f - b = (bn g f - (b + 1)) + 1 by omega, nsb_s]
      exact q2
    · have c0 : nI (bn g f) ≤ nI b := nI_le (by omega) (by omega)
      rw [mns_skip (k := f * 40 + 2 * b) (by rw [e1, e2]; exact c0), mns_skip (k := f * 40 + 2 * b + 1) (by rw [e4, e5]; exact c0)]
      obtain ⟨q', q1, q2⟩ := nrow h hf R r (b + 1) (by omega) _ _ hr
      refine ⟨q', q1, ?_⟩
      rw [show bn g f - b = 0 by omega]
      rw [show bn g f - (b + 1) = 0 by omega] at q2
      exact q2
theorem nk_all : ∀ k, k < 80 → nI k / 40 = nI (k / 40) ∧ nI k / 2 - nI k / 2 / 20 * 20 = nI (k / 2 % 20) ∧ nI k - nI k / 2 * 2 = nI (k % 2) := by decide +kernel
theorem i_nea {g : Nat → Int32} {x : Int32} (h : Inv g) : m_nea g x = nsr g x := by
  have n1 : ¬ ((1 : Int32) = 0) := by decide
  unfold m_nea nsr
  rw [inr_le]
  by_cases h1 : x < 0
  · simp only [h1, ↓reduceIte]
  · by_cases h2 : x ≤ 3
    · simp only [h1, h2, n1, ↓reduceIte]
      obtain ⟨q1, a1, a2⟩ := nrow (x := x) h (f := 0) (by omega) 40 20 0 rfl (-6, 0) (-1, -6) (Or.inl ⟨rfl, rfl⟩)
      obtain ⟨q2, b1, b2⟩ := nrow (x := x) h (f := 1) (by omega) 0 20 0 rfl q1 _ a2
      have e1 : mnl g 80 0 (-6, 0) = q2 := a1.trans b1
      have e2 : nsf g x 2 0 (-1, -6) = nsb g x 1 (bn g 1) 0 (nsb g x 0 (bn g 0) 0 (-1, -6)) := rfl
      rw [e1, e2]
      have b2 : nrel g x q2 (nsb g x 1 (bn g 1) 0 (nsb g x 0 (bn g 0) 0 (-1, -6))) := b2
      generalize nsb g x 1 (bn g 1) 0 (nsb g x 0 (bn g 0) 0 (-1, -6)) = s at b2 ⊢
      unfold mnx
      rcases b2 with ⟨c1, c2⟩ | ⟨k, k1, k2, k3, k4⟩
      · rw [if_pos c1, c2]
      · obtain ⟨p1, p2, p3⟩ := nk_all k k1
        rw [k3, k4]
        dsimp only
        rw [if_neg (nk6 k1), p1, p2, p3]
        rfl
    · simp only [h1, h2, ↓reduceIte]
