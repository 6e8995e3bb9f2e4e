/-! Carrying out: an order, by both -/
theorem mdo_w {g : Nat → Int32} {x d u : Int32} : mdo g 119 x d u = ((m_add g x d u).2.2, (m_add g x d u).2.1) := by
  unfold mdo m_add
  rw [if_pos rfl]
  by_cases c : m_wf g x d u = 0
  · rw [if_pos c, if_pos (mwf_0.mpr c)]
  · rw [if_neg c, if_neg (fun q => c (mwf_0.mp q))]
theorem mdo_r {g : Nat → Int32} {x y z : Int32} : mdo g 114 x y z = ((m_rd g x y z).2.2, (m_rd g x y z).2.1) := by
  unfold mdo m_rd
  rw [if_neg (by decide), if_pos rfl]
  by_cases c : m_rf g x y z = 0
  · rw [if_pos c, if_pos (mrf_0.mpr c)]
  · rw [if_neg c, if_neg (fun q => c (mrf_0.mp q))]
theorem mdo_c {g : Nat → Int32} {x y z : Int32} : mdo g 99 x y z = ((m_cut g x y).2.2, (m_cut g x y).2.1) := by
  unfold mdo m_cut
  rw [if_neg (by decide), if_neg (by decide), if_pos rfl]
  by_cases c : m_cf g x y = 0
  · rw [if_pos c, if_pos (mcf_0.mpr c)]
  · rw [if_neg c, if_neg (fun q => c (mcf_0.mp q))]
theorem mdo_m {g : Nat → Int32} {x y z : Int32} (h0 : 0 ≤ y) : mdo g 109 x y z = ((m_mov g y).2.2, (m_mov g y).2.1) := by
  have h1 : ¬ y < 0 := Int32.not_lt.mpr h0
  have n1 : ¬ ((1 : Int32) = 0) := by decide
  unfold mdo m_mov
  rw [if_neg (by decide), if_neg (by decide), if_neg (by decide), if_pos rfl, inr_le, if_neg h1]
  by_cases c : y ≤ g 0
  · rw [if_pos c, if_pos c, if_neg n1]
  · rw [if_neg c, if_neg c, if_pos rfl]
theorem mdo_x {g : Nat → Int32} {x y z : Int32} : mdo g 120 x y z = (true, (m_rew g).2) := by
  unfold mdo
  rw [if_neg (by decide), if_neg (by decide), if_neg (by decide), if_neg (by decide)]
theorem e_mo {P : Nat → Int32} {n p : Nat} : (chr P n p = 119 → mo P n p = mo_w P n p) ∧ (chr P n p = 114 → mo P n p = mo_r P n p) ∧ (chr P n p = 99 → mo P n p = mo_c P n p) ∧ (chr P n p = 109 → mo P n p = mo_m P n p) := by
  unfold mo
  generalize chr P n p = c
  refine ⟨fun e => ?_, fun e => ?_, fun e => ?_, fun e => ?_⟩ <;> subst e
  · rw [if_pos rfl]
  · rw [if_neg (by decide), if_pos rfl]
  · rw [if_neg (by decide), if_neg (by decide), if_pos rfl]
  · rw [if_neg (by decide), if_neg (by decide), if_neg (by decide), if_pos rfl]
theorem cdo_w {g : Nat → Int32} {a b c d : Int32} : cdo g (119, a, b, c, d) = s_add g a b c := if_pos rfl
theorem cdo_r {g : Nat → Int32} {a b c d : Int32} : cdo g (114, a, b, c, d) = s_rd g a b d := by
  unfold cdo; dsimp only
  rw [if_neg (by decide), if_pos rfl]
theorem cdo_c {g : Nat → Int32} {a b c d : Int32} : cdo g (99, a, b, c, d) = s_cut g a b := by
  unfold cdo; dsimp only
  rw [if_neg (by decide), if_neg (by decide), if_pos rfl]
theorem cdo_m {g : Nat → Int32} {a b c d : Int32} : cdo g (109, a, b, c, d) = s_mov g b := by
  unfold cdo; dsimp only
  rw [if_neg (by decide), if_neg (by decide), if_neg (by decide), if_pos rfl]
theorem cdo_x {g : Nat → Int32} {a b c d : Int32} : cdo g (120, a, b, c, d) = s_rew g := by
  unfold cdo; dsimp only
  rw [if_neg (by decide), if_neg (by decide), if_neg (by decide), if_neg (by decide), if_pos rfl]
theorem crf_w {P : Nat → Int32} {n p : Nat} {F : cF} (e : chr P n p = 119) : crf P n p F = (119, fl P n (p + 1, false), (cn P n (sg P n 58 58 (sg P n 48 49 (p + 1, false)))).1, (cn P n (sg P n 35 35 (cn P n (sg P n 58 58 (sg P n 48 49 (p + 1, false)))).2)).1, F.2.2.2.2) := if_pos e
theorem crf_r {P : Nat → Int32} {n p : Nat} {F : cF} (e : chr P n p = 114) : crf P n p F = (114, fl P n (p + 1, false), (cn P n (sg P n 46 46 (sg P n 48 49 (p + 1, false)))).1, F.2.2.2.1, b2 (ptb P n 45 (cn P n (sg P n 46 46 (sg P n 48 49 (p + 1, false)))).2)) := by
  unfold crf
  rw [if_neg (by rw [e]; decide), if_pos e]
theorem crf_c {P : Nat → Int32} {n p : Nat} {F : cF} (e : chr P n p = 99) : crf P n p F = (99, fl P n (p + 1, false), (cn P n (sg P n 46 46 (sg P n 48 49 (p + 1, false)))).1, F.2.2.2.1, F.2.2.2.2) := by
  unfold crf
  rw [if_neg (by rw [e]; decide), if_neg (by rw [e]; decide), if_pos e]
theorem crf_m {P : Nat → Int32} {n p : Nat} {F : cF} (e : chr P n p = 109) : crf P n p F = (109, F.2.1, (cn P n (p + 1, false)).1, F.2.2.2.1, F.2.2.2.2) := by
  unfold crf
  rw [if_neg (by rw [e]; decide), if_neg (by rw [e]; decide), if_neg (by rw [e]; decide), if_pos e]
theorem crf_x {P : Nat → Int32} {n p : Nat} {F : cF} (e : chr P n p = 120) : crf P n p F = (120, F.2.1, F.2.2.1, F.2.2.2.1, F.2.2.2.2) := by
  unfold crf
  rw [if_neg (by rw [e]; decide), if_neg (by rw [e]; decide), if_neg (by rw [e]; decide), if_neg (by rw [e]; decide), if_pos e]
abbrev CM (P : Nat → Int32) (n p : Nat) (g : Nat → Int32) (F : cF) : Prop := (md P n p g).1 = decide (0 ≤ (cdo g (crf P n p F)).1) ∧ (md P n p g).2 = (cdo g (crf P n p F)).2 ∧ Inv (cdo g (crf P n p F)).2
theorem CM_of {P : Nat → Int32} {n p : Nat} {g : Nat → Int32} {F : cF} {a : Bool} {b : Nat → Int32} {s : Int32 × (Nat → Int32)} (h1 : md P n p g = (a, b)) (h2 : cdo g (crf P n p F) = s) (ha : a = decide (0 ≤ s.1)) (hb : b = s.2) (hI : Inv s.2) : CM P n p g F := by
  unfold CM
  rw [h1, h2]
  exact ⟨ha, hb, hI⟩
theorem cm_w {P : Nat → Int32} {n p : Nat} {g : Nat → Int32} (F : cF) (h : Inv g) (hm : (mo P n p).1.2 = false) (e : chr P n p = 119) : CM P n p g F := by
  have em := e_mo.1 e
  rw [em] at hm
  have k1 := nm_ok (P := P) (n := n) (q := sg P n 35 35 (nm P n (sg P n 58 58 (sg P n 48 49 (p + 1, false)))).2) hm
  have k2 := (sg_ok k1).1
  have k3 := nm_ok k2
  have k4 := (sg_ok k3).1
  have v1 := (cn_nm (P := P) (n := n) (sg P n 58 58 (sg P n 48 49 (p + 1, false))))
  have v2 := (cn_nm (P := P) (n := n) (sg P n 35 35 (nm P n (sg P n 58 58 (sg P n 48 49 (p + 1, false)))).2))
  have fe : fl P n (p + 1, false) = chr P n (p + 1) - 48 := fl_ok k4
  obtain ⟨a1, a2⟩ := i_add (x := chr P n (p + 1) - 48) (d := (nm P n (sg P n 58 58 (sg P n 48 49 (p + 1, false)))).1) (u := (nm P n (sg P n 35 35 (nm P n (sg P n 58 58 (sg P n 48 49 (p + 1, false)))).2)).1) h
  have g1 : md P n p g = mdo g 119 (chr P n (p + 1) - 48) (nm P n (sg P n 58 58 (sg P n 48 49 (p + 1, false)))).1 (nm P n (sg P n 35 35 (nm P n (sg P n 58 58 (sg P n 48 49 (p + 1, false)))).2)).1 := by unfold md; rw [em, e]; rfl
  have g2 : cdo g (crf P n p F) = s_add g (chr P n (p + 1) - 48) (nm P n (sg P n 58 58 (sg P n 48 49 (p + 1, false)))).1 (nm P n (sg P n 35 35 (nm P n (sg P n 58 58 (sg P n 48 49 (p + 1, false)))).2)).1 := by rw [crf_w e, cdo_w, v1.1, v1.2 k2, v2.2 hm, fe]
  rw [mdo_w, a1] at g1
  exact CM_of g1 g2 rfl rfl a2
theorem cm_r {P : Nat → Int32} {n p : Nat} {g : Nat → Int32} (F : cF) (h : Inv g) (hm : (mo P n p).1.2 = false) (e : chr P n p = 114) : CM P n p g F := by
  have em := e_mo.2.1 e
  rw [em] at hm
  have k2 : (nm P n (sg P n 46 46 (sg P n 48 49 (p + 1, false)))).2.2 = false := by
    unfold mo_r at hm
    dsimp only at hm
    by_cases c : nx P n 45 45 (nm P n (sg P n 46 46 (sg P n 48 49 (p + 1, false)))).2 = true
    · rw [if_pos c] at hm; exact (sg_ok hm).1
    · rw [if_neg c] at hm; exact hm
  have k3 := nm_ok k2
  have k4 := (sg_ok k3).1
  have v1 := (cn_nm (P := P) (n := n) (sg P n 46 46 (sg P n 48 49 (p + 1, false))))
  have fe : fl P n (p + 1, false) = chr P n (p + 1) - 48 := fl_ok k4
  obtain ⟨a1, a2⟩ := i_rd (x := chr P n (p + 1) - 48) (y := (nm P n (sg P n 46 46 (sg P n 48 49 (p + 1, false)))).1) (z := b2 (ptb P n 45 (nm P n (sg P n 46 46 (sg P n 48 49 (p + 1, false)))).2)) h
  have g1 : md P n p g = mdo g 114 (chr P n (p + 1) - 48) (nm P n (sg P n 46 46 (sg P n 48 49 (p + 1, false)))).1 (b2 (nx P n 45 45 (nm P n (sg P n 46 46 (sg P n 48 49 (p + 1, false)))).2)) := by unfold md; rw [em, e]; rfl
  have g2 : cdo g (crf P n p F) = s_rd g (chr P n (p + 1) - 48) (nm P n (sg P n 46 46 (sg P n 48 49 (p + 1, false)))).1 (b2 (ptb P n 45 (nm P n (sg P n 46 46 (sg P n 48 49 (p + 1, false)))).2)) := by rw [crf_r e, cdo_r, v1.1, v1.2 k2, fe]
  rw [nx_ptb, mdo_r, a1] at g1
  exact CM_of g1 g2 rfl rfl a2
theorem cm_c {P : Nat → Int32} {n p : Nat} {g : Nat → Int32} (F : cF) (h : Inv g) (hm : (mo P n p).1.2 = false) (e : chr P n p = 99) : CM P n p g F := by
  have em := e_mo.2.2.1 e
  rw [em] at hm
  have k3 := nm_ok (P := P) (n := n) (q := sg P n 46 46 (sg P n 48 49 (p + 1, false))) hm
  have k4 := (sg_ok k3).1
  have v1 := (cn_nm (P := P) (n := n) (sg P n 46 46 (sg P n 48 49 (p + 1, false))))
  have fe : fl P n (p + 1, false) = chr P n (p + 1) - 48 := fl_ok k4
  obtain ⟨a1, a2⟩ := i_cut (x := chr P n (p + 1) - 48) (y := (nm P n (sg P n 46 46 (sg P n 48 49 (p + 1, false)))).1) h
  have g1 : md P n p g = mdo g 99 (chr P n (p + 1) - 48) (nm P n (sg P n 46 46 (sg P n 48 49 (p + 1, false)))).1 0 := by unfold md; rw [em, e]; rfl
  have g2 : cdo g (crf P n p F) = s_cut g (chr P n (p + 1) - 48) (nm P n (sg P n 46 46 (sg P n 48 49 (p + 1, false)))).1 := by rw [crf_c e, cdo_c, v1.2 hm, fe]
  rw [mdo_c, a1] at g1
  exact CM_of g1 g2 rfl rfl a2
theorem cm_m {P : Nat → Int32} {n p : Nat} {g : Nat → Int32} (F : cF) (h : Inv g) (hm : (mo P n p).1.2 = false) (e : chr P n p = 109) : CM P n p g F := by
  have em := e_mo.2.2.2 e
  rw [em] at hm
  have v1 := (cn_nm (P := P) (n := n) (p + 1, false))
  have nn := nm_nn (P := P) (n := n) (q := (p + 1, false)) hm
  obtain ⟨a1, a2⟩ := i_mov (x := (nm P n (p + 1, false)).1) h
  have g1 : md P n p g = mdo g 109 0 (nm P n (p + 1, false)).1 0 := by unfold md; rw [em, e]; rfl
  have g2 : cdo g (crf P n p F) = s_mov g (nm P n (p + 1, false)).1 := by rw [crf_m e, cdo_m, v1.2 hm]
  rw [mdo_m nn, a1] at g1
  exact CM_of g1 g2 rfl rfl a2
theorem cm_x {P : Nat → Int32} {n p : Nat} {g : Nat → Int32} (F : cF) (h : Inv g) (e : chr P n p = 120) : CM P n p g F := by
  obtain ⟨a1, a2, a3⟩ := i_rew h
  have g1 : md P n p g = (true, (m_rew g).2) := by unfold md; rw [e]; exact mdo_x
  have g2 : cdo g (crf P n p F) = s_rew g := by rw [crf_x e, cdo_x]
  exact CM_of g1 g2 (decide_eq_true a2).symm (congrArg Prod.snd a1) a3
theorem cdo_mdo {P : Nat → Int32} {n p : Nat} {g : Nat → Int32} (F : cF) (h : Inv g) (hm : (mo P n p).1.2 = false) : CM P n p g F := by
  rcases chr_cases (chr P n p) with e | e | e | e | e | ⟨e1, e2, e3, e4, e5⟩
  · exact cm_w F h hm e
  · exact cm_r F h hm e
  · exact cm_c F h hm e
  · exact cm_m F h hm e
  · exact cm_x F h e
  · exfalso
    unfold mo at hm
    rw [if_neg e1, if_neg e2, if_neg e3, if_neg e4, if_neg e5] at hm
    dsimp only at hm
    rw [nm_true] at hm
    cases hm
