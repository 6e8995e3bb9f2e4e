/-! The pure part: numbers as integers -/
theorem ti_add {a b : Int32} (h1 : -2147483648 ≤ a.toInt + b.toInt) (h2 : a.toInt + b.toInt < 2147483648) : (a + b).toInt = a.toInt + b.toInt := by
  rw [Int32.toInt_add]; exact Int.bmod_eq_of_le (by omega) (by omega)
theorem ti_sub {a b : Int32} (h1 : -2147483648 ≤ a.toInt - b.toInt) (h2 : a.toInt - b.toInt < 2147483648) : (a - b).toInt = a.toInt - b.toInt := by
  rw [Int32.toInt_sub]; exact Int.bmod_eq_of_le (by omega) (by omega)
theorem ti_mul2 {a : Int32} (h1 : -1000000 ≤ a.toInt) (h2 : a.toInt ≤ 1000000) : (2 * a).toInt = 2 * a.toInt := by
  rw [Int32.toInt_mul, show (2 : Int32).toInt = 2 by decide]; exact Int.bmod_eq_of_le (by omega) (by omega)
theorem ti_0 : (0 : Int32).toInt = 0 := by decide
theorem ti_1 : (1 : Int32).toInt = 1 := by decide
theorem ti_le {a b : Int32} : a ≤ b ↔ a.toInt ≤ b.toInt := Int32.le_iff_toInt_le
theorem ti_lt {a b : Int32} : a < b ↔ a.toInt < b.toInt := Int32.lt_iff_toInt_lt
theorem ti_eq {a b : Int32} : a = b ↔ a.toInt = b.toInt := Int32.toInt_inj.symm
theorem ap_ab {a x : Int32} (h1 : -1000000 ≤ a.toInt) (h2 : a.toInt ≤ 1000000) (h3 : -1000000 ≤ x.toInt) (h4 : x.toInt ≤ 1000000) : ap a x = ab (x - a) := by
  have e1 : (x - a).toInt = x.toInt - a.toInt := ti_sub (by omega) (by omega)
  have e2 : (a - x).toInt = a.toInt - x.toInt := ti_sub (by omega) (by omega)
  unfold ap ab
  by_cases h : a ≤ x
  · rw [if_pos h, if_pos (by rw [ti_le, ti_0, e1]; rw [ti_le] at h; omega)]
  · rw [if_neg h, if_neg (by rw [ti_le, ti_0, e1]; rw [ti_le] at h; omega)]
    rw [ti_eq, e2, ti_sub (by rw [ti_0, e1]; omega) (by rw [ti_0, e1]; omega), ti_0, e1]
    omega
def wI (g : Nat → Int32) (r : Nat) : Int := (g (10 + 4 * r + 0)).toInt + 2 * (g (10 + 4 * r + 2)).toInt
def fI (g : Nat → Int32) (f : Nat) : Nat → Int
  | 0 => 0
  | n + 1 => fI g f n + wI g (f * 20 + n)
/-- what holds of a tape always -/
def Inv (g : Nat → Int32) : Prop := (BN g) ∧ (0 ≤ (g 0).toInt) ∧ ((g 0).toInt ≤ 2000) ∧ (1 ≤ (g 1).toInt) ∧ ((g 1).toInt ≤ 99) ∧ (1 ≤ (g 2).toInt) ∧ ((g 2).toInt ≤ 9) ∧ (0 ≤ (g 3).toInt) ∧ ((g 3).toInt ≤ (g 0).toInt) ∧ (0 ≤ (g 4).toInt) ∧ ((g 4).toInt ≤ 9) ∧ (∀ f b, f < 2 → b < bn g f → 1 ≤ (g (10 + 4 * (f * 20 + b) + 0)).toInt ∧ (g (10 + 4 * (f * 20 + b) + 0)).toInt ≤ 99 ∧ 1 ≤ (g (10 + 4 * (f * 20 + b) + 2)).toInt ∧ (g (10 + 4 * (f * 20 + b) + 2)).toInt ≤ 9 ∧ 0 ≤ (g (10 + 4 * (f * 20 + b) + 1)).toInt ∧ (g (10 + 4 * (f * 20 + b) + 1)).toInt ≤ 9999) ∧ (fI g 0 (bn g 0) + fI g 1 (bn g 1) + (g 1).toInt ≤ (g 0).toInt)
theorem Inv.bN {g : Nat → Int32} (h : Inv g) : BN g := h.1
theorem Inv.L1 {g : Nat → Int32} (h : Inv g) : 0 ≤ (g 0).toInt := h.2.1
theorem Inv.L2 {g : Nat → Int32} (h : Inv g) : (g 0).toInt ≤ 2000 := h.2.2.1
theorem Inv.G1 {g : Nat → Int32} (h : Inv g) : 1 ≤ (g 1).toInt := h.2.2.2.1
theorem Inv.G2 {g : Nat → Int32} (h : Inv g) : (g 1).toInt ≤ 99 := h.2.2.2.2.1
theorem Inv.M1 {g : Nat → Int32} (h : Inv g) : 1 ≤ (g 2).toInt := h.2.2.2.2.2.1
theorem Inv.M2 {g : Nat → Int32} (h : Inv g) : (g 2).toInt ≤ 9 := h.2.2.2.2.2.2.1
theorem Inv.H1 {g : Nat → Int32} (h : Inv g) : 0 ≤ (g 3).toInt := h.2.2.2.2.2.2.2.1
theorem Inv.H2 {g : Nat → Int32} (h : Inv g) : (g 3).toInt ≤ (g 0).toInt := h.2.2.2.2.2.2.2.2.1
theorem Inv.S1 {g : Nat → Int32} (h : Inv g) : 0 ≤ (g 4).toInt := h.2.2.2.2.2.2.2.2.2.1
theorem Inv.S2 {g : Nat → Int32} (h : Inv g) : (g 4).toInt ≤ 9 := h.2.2.2.2.2.2.2.2.2.2.1
theorem Inv.rows {g : Nat → Int32} (h : Inv g) : ∀ f b, f < 2 → b < bn g f → 1 ≤ (g (10 + 4 * (f * 20 + b) + 0)).toInt ∧ (g (10 + 4 * (f * 20 + b) + 0)).toInt ≤ 99 ∧ 1 ≤ (g (10 + 4 * (f * 20 + b) + 2)).toInt ∧ (g (10 + 4 * (f * 20 + b) + 2)).toInt ≤ 9 ∧ 0 ≤ (g (10 + 4 * (f * 20 + b) + 1)).toInt ∧ (g (10 + 4 * (f * 20 + b) + 1)).toInt ≤ 9999 := h.2.2.2.2.2.2.2.2.2.2.2.1
theorem Inv.gap {g : Nat → Int32} (h : Inv g) : fI g 0 (bn g 0) + fI g 1 (bn g 1) + (g 1).toInt ≤ (g 0).toInt := h.2.2.2.2.2.2.2.2.2.2.2.2
section PU
variable {g : Nat → Int32} {f b n : Nat}
theorem i_w (h : Inv g) (hf : f < 2) (hb : b < bn g f) : (wl g (f * 20 + b)).toInt = wI g (f * 20 + b) ∧ 3 ≤ wI g (f * 20 + b) ∧ wI g (f * 20 + b) ≤ 117 := by
  obtain ⟨h1, h2, h3, h4, h5, h6⟩ := h.rows f b hf hb
  unfold wl wI
  have e := ti_mul2 (a := g (10 + 4 * (f * 20 + b) + 2)) (by omega) (by omega)
  rw [ti_add (by omega) (by omega), e]
  exact ⟨rfl, by omega, by omega⟩
theorem i_n20 (h : Inv g) (hf : f < 2) : bn g f ≤ 20 := (h.bN f hf).2
theorem i_ft (h : Inv g) (hf : f < 2) : ∀ n, n ≤ bn g f → (ft g f n).toInt = fI g f n ∧ 3 * (n : Int) ≤ fI g f n ∧ fI g f n ≤ 117 * n
  | 0, _ => ⟨ti_0, by simp [fI], by simp [fI]⟩
  | n + 1, hn => by
    obtain ⟨e1, e2, e3⟩ := i_ft h hf n (by omega)
    obtain ⟨w1, w2, w3⟩ := i_w h hf (b := n) (by omega)
    have := i_n20 h hf
    unfold ft fI
    rw [ti_add (by omega) (by omega), e1, w1]
    exact ⟨rfl, by omega, by omega⟩
/-- the blocks below stand below -/
theorem i_mono (h : Inv g) (hf : f < 2) : ∀ m n, n ≤ m → m ≤ bn g f → fI g f n + 3 * ((m : Int) - n) ≤ fI g f m
  | 0, n, hn, _ => by have : n = 0 := by omega
                      subst this; simp
  | m + 1, n, hn, hm => by
    rcases Nat.lt_or_ge n (m + 1) with q | q
    · have h1 := i_mono h hf m n (by omega) (by omega)
      have h2 := i_w h hf (b := m) (by omega)
      show _ ≤ fI g f m + wI g (f * 20 + m)
      omega
    · have : n = m + 1 := by omega
      subst this; omega
theorem i_all (h : Inv g) (hf : f < 2) : (ft g f (bn g f)).toInt = fI g f (bn g f) ∧ 0 ≤ fI g f (bn g f) := by
  have := i_ft h hf (bn g f) (Nat.le_refl _)
  exact ⟨this.1, by omega⟩
theorem i_gp (h : Inv g) : (gp g).toInt = (g 0).toInt - fI g 0 (bn g 0) - fI g 1 (bn g 1) := by
  obtain ⟨a1, a2⟩ := i_all h (f := 0) (by decide)
  obtain ⟨b1, b2⟩ := i_all h (f := 1) (by decide)
  have := h.gap; have := h.L1; have := h.L2; have := h.G1
  unfold gp
  have e : (g 0 - ft g 0 (bn g 0)).toInt = (g 0).toInt - fI g 0 (bn g 0) := by rw [ti_sub (by omega) (by omega), a1]
  rw [ti_sub (by omega) (by omega), e, b1]
theorem i_en0 (h : Inv g) : (en g 0).toInt = fI g 0 (bn g 0) := by
  unfold en; rw [if_pos rfl]; exact (i_all h (f := 0) (by decide)).1
theorem i_en1 (h : Inv g) : (en g 1).toInt = (g 0).toInt - fI g 1 (bn g 1) := by
  obtain ⟨b1, b2⟩ := i_all h (f := 1) (by decide)
  have := h.gap; have := h.L1; have := h.L2; have := h.G1; have := (i_all h (f := 0) (by decide)).2
  unfold en; rw [if_neg (by decide), ti_sub (by omega) (by omega), b1]
theorem i_en (h : Inv g) (hf : f < 2) : 0 ≤ (en g f).toInt ∧ (en g f).toInt ≤ (g 0).toInt := by
  have := h.gap; have := h.G1; have := (i_all h (f := 0) (by decide)).2; have := (i_all h (f := 1) (by decide)).2
  rcases (show f = 0 ∨ f = 1 by omega) with rfl | rfl
  · rw [i_en0 h]; omega
  · rw [i_en1 h]; omega
theorem i_lo0 (h : Inv g) (hb : b < bn g 0) : (lo g 0 b).toInt = fI g 0 b := by
  unfold lo; rw [if_pos rfl]; exact (i_ft h (f := 0) (by decide) b (by omega)).1
theorem i_lo1 (h : Inv g) (hb : b < bn g 1) : (lo g 1 b).toInt = (g 0).toInt - fI g 1 (b + 1) := by
  obtain ⟨b1, b2, b3⟩ := i_ft h (f := 1) (by decide) (b + 1) (by omega)
  have := i_n20 h (f := 1) (by decide); have := h.L1; have := h.L2
  unfold lo; rw [if_neg (by decide), ti_sub (by omega) (by omega), b1]
/-- a block's place: its lower end, and its upper, on the tape -/
theorem i_lo (h : Inv g) (hf : f < 2) (hb : b < bn g f) : 0 ≤ (lo g f b).toInt ∧ (lo g f b + wl g (f * 20 + b)).toInt = (lo g f b).toInt + wI g (f * 20 + b) ∧ (lo g f b).toInt + wI g (f * 20 + b) ≤ (g 0).toInt := by
  obtain ⟨w1, w2, w3⟩ := i_w h hf hb
  have := h.gap; have := h.G1; have := h.L1; have := h.L2; have := (i_all h (f := 0) (by decide)).2; have := (i_all h (f := 1) (by decide)).2
  rcases (show f = 0 ∨ f = 1 by omega) with rfl | rfl
  · have e := i_lo0 h hb
    have m1 := i_mono h (f := 0) (by decide) (bn g 0) (b + 1) (by omega) (Nat.le_refl _)
    have e2 : fI g 0 (b + 1) = fI g 0 b + wI g (0 * 20 + b) := rfl
    have := (i_ft h (f := 0) (by decide) b (by omega)).2.1
    refine ⟨by omega, ?_, by omega⟩
    rw [ti_add (by omega) (by omega), w1]
  · have e := i_lo1 h hb
    have m1 := i_mono h (f := 1) (by decide) (bn g 1) (b + 1) (by omega) (Nat.le_refl _)
    have e2 : fI g 1 (b + 1) = fI g 1 b + wI g (1 * 20 + b) := rfl
    have := (i_ft h (f := 1) (by decide) b (by omega)).2.1
    refine ⟨by omega, ?_, by omega⟩
    rw [ti_add (by omega) (by omega), w1]
theorem i_sr (h : Inv g) (hf : f < 2) (hb : b < bn g f) (w : Nat) : 0 ≤ (sr g f b w).toInt ∧ (sr g f b w).toInt ≤ (g 0).toInt := by
  obtain ⟨l1, l2, l3⟩ := i_lo h hf hb
  have := (i_w h hf hb).2.1
  unfold sr
  split
  · exact ⟨l1, by omega⟩
  · rw [l2]; exact ⟨by omega, l3⟩
theorem i_tvm (h : Inv g) {x : Int32} (h1 : 0 ≤ x.toInt) (h2 : x.toInt ≤ 2000) : tvm g x = tv g x := by
  have := h.H1; have := h.H2; have := h.L2
  unfold tvm tv
  rw [ap_ab (by omega) (by omega) (by omega) (by omega)]
theorem i_tr (h : Inv g) (hf : f < 2) (hb : b < bn g f) (w : Nat) : m_tr g f b w = tr g f b w := by
  obtain ⟨h1, h2⟩ := i_sr h hf hb w
  have := h.H1; have := h.H2; have := h.L2
  unfold m_tr tr
  rw [ap_ab (by omega) (by omega) (by omega) (by omega)]
end PU
