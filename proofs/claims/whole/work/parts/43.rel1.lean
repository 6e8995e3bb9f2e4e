/-! The relation of the two histories -/
def eqT (g g' : Nat → Int32) : Prop := ∀ j, j < 170 → g j = g' j
theorem tb_eqT {g g' : Nat → Int32} (h : eqT g g') : tb g = tb g' := funext fun j => by
  unfold tb
  split
  · exact h _ (by omega)
  · rfl
theorem td_eqT {g g' : Nat → Int32} (h : eqT g g') {k : Nat} (hk : k < 4) : td k g = td k g' := funext fun j => by
  unfold td
  split
  · exact h _ (by omega)
  · rfl
theorem tw_eqT {ca : Nat → ClassId} {t : Nat → Nat} {g g' : Nat → Int32} (h : eqT g g') : tw ca t g = tw ca t g' := by
  unfold tw tf
  rw [tb_eqT h, td_eqT h (k := 0) (by omega), td_eqT h (k := 1) (by omega), td_eqT h (k := 2) (by omega), td_eqT h (k := 3) (by omega), h 0 (by omega), h 1 (by omega), h 2 (by omega), h 3 (by omega), h 4 (by omega), h 5 (by omega), h 6 (by omega), h 7 (by omega)]
theorem Inv_eqT {g g' : Nat → Int32} (e : eqT g g') (h : Inv g) : Inv g' := by
  have kb : ∀ i, i < 2 → bn g' i = bn g i := fun i hi => by unfold bn; rw [e (8 + i) (by omega)]
  have ew : ∀ r, r < 40 → wI g' r = wI g r := fun r hr => by unfold wI; rw [e _ (by omega), e _ (by omega)]
  have ef : ∀ i, i < 2 → ∀ n, n ≤ 20 → fI g' i n = fI g i n := fun i hi n => by
    induction n with
    | zero => intro _; rfl
    | succ n ih =>
      intro hn
      show fI g' i n + wI g' _ = fI g i n + wI g _
      rw [ih (by omega), ew _ (by omega)]
  have n0 := i_n20 h (f := 0) (by omega)
  have n1 := i_n20 h (f := 1) (by omega)
  unfold Inv
  rw [← e 0 (by omega), ← e 1 (by omega), ← e 2 (by omega), ← e 3 (by omega), ← e 4 (by omega), kb 0 (by omega), kb 1 (by omega), ef 0 (by omega) _ n0, ef 1 (by omega) _ n1]
  refine ⟨fun i hi => ?_, h.L1, h.L2, h.G1, h.G2, h.M1, h.M2, h.H1, h.H2, h.S1, h.S2, fun i b hi hb => ?_, h.gap⟩
  · rw [← e (8 + i) (by omega), kb i hi]; exact h.bN i hi
  · rw [kb i hi] at hb
    have hn := i_n20 h hi
    rw [← e _ (by omega), ← e _ (by omega), ← e _ (by omega)]
    exact h.rows i b hi hb
def HR (hh : Nat → Nat → Int32) (B : Nat → Int32) (n : Nat) : Prop := ∀ i, i < n → Inv (hh i) ∧ ∀ j, j < 170 → B (170 * i + j) = hh i j
theorem cp_in {B g : Nat → Int32} {n j : Nat} (h : j < 170) : cp B g n 170 (170 * n + j) = g j := by
  unfold cp
  rw [if_pos (by omega)]
  congr 1
  omega
theorem cp_out {B g : Nat → Int32} {n i j : Nat} (h : j < 170) (hi : i ≠ n) : cp B g n 170 (170 * i + j) = B (170 * i + j) := by
  unfold cp
  rw [if_neg (by omega)]
theorem HR_rec {hh : Nat → Nat → Int32} {B g gB : Nat → Int32} {n : Nat} {a : Int32} {q : Nat → Nat → Nat} {tB : Nat → Nat} {fl : Bool} (h : HR hh B n) (hn : n ≤ 6) (hI : Inv g) (hf : fl = decide (0 ≤ a)) (hg : 0 ≤ a → gB = g) : HR (rcd a (q, hh, tB, gB, n)).2.1 (kbB fl g B n) (rcd a (q, hh, tB, gB, n)).2.2.2.2 ∧ (rcd a (q, hh, tB, gB, n)).2.2.2.2 = kbn fl n ∧ kbn fl n ≤ 6 := by
  subst hf
  unfold rcd kbB kbn knB knn
  by_cases c : 0 ≤ a
  · rw [if_pos c, decide_eq_true c, if_pos rfl, if_pos rfl, hg c]
    dsimp only
    by_cases c6 : n < 6
    · rw [if_pos c6, if_neg (by omega), if_neg (by omega)]
      refine ⟨fun i hi => ?_, rfl, by omega⟩
      dsimp only at hi ⊢
      unfold va_up
      by_cases q : i = n
      · subst q
        rw [if_pos rfl]
        exact ⟨hI, fun j hj => cp_in hj⟩
      · rw [if_neg q]
        obtain ⟨h1, h2⟩ := h i (by omega)
        exact ⟨h1, fun j hj => (cp_out hj q).trans (h2 j hj)⟩
    · have e6 : n = 6 := by omega
      subst e6
      rw [if_neg c6, if_pos rfl, if_pos rfl]
      refine ⟨fun i hi => ?_, rfl, by omega⟩
      dsimp only at hi ⊢
      unfold va_up
      by_cases q : i = 5
      · subst q
        rw [if_pos rfl]
        exact ⟨hI, fun j hj => cp_in hj⟩
      · rw [if_neg q]
        obtain ⟨h1, h2⟩ := h (i + 1) (by omega)
        have er : rot hh i = hh (i + 1) := by unfold rot; rw [if_pos (by omega)]
        rw [er]
        refine ⟨h1, fun j hj => (cp_out hj q).trans ?_⟩
        unfold sh
        rw [if_pos (by omega), ← h2 j hj]
        congr 1
        omega
  · rw [if_neg c, decide_eq_false c, if_neg (by decide), if_neg (by decide)]
    exact ⟨h, rfl, hn⟩
def SR (ks : Nat → Nat → Int32) (SV SL : Nat → Int32) : Prop := ∀ f, f < 2 → ¬ SV f = 0 → Inv (ks f) ∧ ∀ j, j < 170 → SL (170 * f + j) = ks f j
theorem cb_eqT {g B g2 : Nat → Int32} {n : Nat} (h : ∀ j, j < 170 → B (170 * n + j) = g2 j) : eqT g2 (cb g B n 170) := fun j hj => by
  unfold cb
  rw [if_pos hj, h j hj]
theorem bn_eqT {g g' : Nat → Int32} (h : eqT g g') {f : Nat} (hf : f < 2) : bn g f = bn g' f := by unfold bn; rw [h (8 + f) (by omega)]
theorem c_isf {α : Type} (x : Int32) (a b c : α) : (if x < 0 then a else if x < 2 then b else c) = if isf x = 0 then (if x < 0 then a else c) else b := by
  unfold isf
  by_cases h : x < 0
  · simp only [h, ↓reduceIte]
  · by_cases h2 : x < 2
    · have h3 : ¬ 2 ≤ x := Int32.not_le.mpr h2
      have n1 : ¬ ((1 : Int32) = 0) := by decide
      simp only [h, h2, h3, n1, ↓reduceIte]
    · have h3 : 2 ≤ x := Int32.not_lt.mp h2
      simp only [h, h2, h3, ↓reduceIte]
theorem sav_eq {g SL SV : Nat → Int32} {ks : Nat → Nat → Int32} {x : Int32} (h : SR ks SV SL) (hI : Inv g) : (c_sav g ks SV x).1 = (m_sav g SL SV x).1 ∧ (c_sav g ks SV x).2.2 = (m_sav g SL SV x).2.2 ∧ SR (c_sav g ks SV x).2.1 (m_sav g SL SV x).2.2 (m_sav g SL SV x).2.1 := by
  unfold c_sav m_sav
  rw [c_isf]
  by_cases c : isf x = 0
  · rw [if_pos c, if_pos c, ite_self]
    exact ⟨rfl, rfl, h⟩
  · rw [if_neg c, if_neg c]
    obtain ⟨f, hf, rfl⟩ := isf_of c
    rw [nI_clamp (by omega)]
    refine ⟨rfl, rfl, fun i hi hs => ?_⟩
    dsimp only at hs ⊢
    unfold va_up
    by_cases q : i = f
    · subst q
      rw [if_pos rfl]
      exact ⟨hI, fun j hj => cp_in hj⟩
    · rw [pk_un q] at hs
      rw [if_neg q]
      obtain ⟨h1, h2⟩ := h i hi hs
      exact ⟨h1, fun j hj => (cp_out hj q).trans (h2 j hj)⟩
theorem res_eq {g gB SL SV : Nat → Int32} {ks : Nat → Nat → Int32} {x : Int32} (h : SR ks SV SL) (hI : Inv g) : (c_res g ks SV x).1 = (m_res g SL SV x).1 ∧ eqT (c_res g ks SV x).2 (m_res g SL SV x).2.1 ∧ (m_res g SL SV x).2.2 = decide (0 ≤ (m_res g SL SV x).1) ∧ (0 ≤ (m_res g SL SV x).1 → c_rgB g gB SV x = g) ∧ Inv (m_res g SL SV x).2.1 := by
  unfold c_res m_res c_rgB
  rw [c_isf, c_isf]
  by_cases c : isf x = 0
  · rw [if_pos c, if_pos c, if_pos c, ite_self]
    exact ⟨rfl, fun _ _ => rfl, by show false = decide ((0 : Int32) ≤ -2); decide, fun q => absurd q (show ¬ (0 : Int32) ≤ -2 by decide), hI⟩
  · rw [if_neg c, if_neg c, if_neg c]
    obtain ⟨f, hf, rfl⟩ := isf_of c
    rw [nI_clamp (by omega)]
    by_cases c2 : SV f = 0
    · rw [if_pos c2, if_pos c2, if_pos c2]
      exact ⟨rfl, fun _ _ => rfl, by show false = decide ((0 : Int32) ≤ -5); decide, fun q => absurd q (show ¬ (0 : Int32) ≤ -5 by decide), hI⟩
    · rw [if_neg c2, if_neg c2, if_neg c2]
      obtain ⟨h1, h2⟩ := h f hf c2
      have e := cb_eqT (g := g) h2
      have hI2 := Inv_eqT e h1
      have b0 := i_n20 hI2 (f := 0) (by omega)
      have b1 := i_n20 hI2 (f := 1) (by omega)
      refine ⟨?_, e, (decide_eq_true (nI_pos' (by omega))).symm, fun _ => rfl, hI2⟩
      dsimp only
      rw [bn_eqT e (f := 0) (by omega), bn_eqT e (f := 1) (by omega)]
theorem und_eq {g B : Nat → Int32} {hh : Nat → Nat → Int32} {n : Nat} (h : HR hh B n) (hn : n ≤ 6) (hI : Inv g) : (c_und g hh n).1 = (m_und g B n).1 ∧ eqT (c_und g hh n).2.1 (m_und g B n).2.1 ∧ (c_und g hh n).2.2 = (m_und g B n).2.2 ∧ Inv (m_und g B n).2.1 ∧ HR hh B (m_und g B n).2.2 ∧ (m_und g B n).2.2 ≤ 6 := by
  unfold c_und m_und
  by_cases c : n = 0
  · rw [if_pos c, if_pos c]
    exact ⟨rfl, fun _ _ => rfl, rfl, hI, fun i hi => by dsimp only at hi; omega, by dsimp only; omega⟩
  · rw [if_neg c, if_neg c]
    obtain ⟨h1, h2⟩ := h (n - 1) (by omega)
    have e := cb_eqT (g := g) h2
    exact ⟨rfl, e, rfl, Inv_eqT e h1, fun i hi => h i (by dsimp only at hi; omega), by dsimp only; omega⟩
