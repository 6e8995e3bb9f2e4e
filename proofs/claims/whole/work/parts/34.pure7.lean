/-- a block more -/
theorem i_app {g : Nat → Int32} {f : Nat} {d u z : Int32} (h : Inv g) (hf : f < 2) (hb : bn g f < 20) (d1 : 1 ≤ d.toInt) (d2 : d.toInt ≤ 99) (u1 : 0 ≤ u.toInt) (u2 : u.toInt ≤ 9999) (hg : (g 1).toInt ≤ (g 0).toInt - fI g 0 (bn g 0) - fI g 1 (bn g 1) - (d.toInt + 2 * (g 2).toInt)) :
    Inv (upd (upd (upd (upd (upd g (10 + 4 * (f * 20 + bn g f) + 0) d) (10 + 4 * (f * 20 + bn g f) + 1) u) (10 + 4 * (f * 20 + bn g f) + 2) (g 2)) (10 + 4 * (f * 20 + bn g f) + 3) z) (8 + f) (nI (bn g f + 1))) := by
  obtain ⟨b, hbb⟩ : ∃ b, b = bn g f := ⟨_, rfl⟩
  rw [← hbb]
  rw [← hbb] at hb
  obtain ⟨g', he⟩ : ∃ q, q = upd (upd (upd (upd (upd g (10 + 4 * (f * 20 + b) + 0) d) (10 + 4 * (f * 20 + b) + 1) u) (10 + 4 * (f * 20 + b) + 2) (g 2)) (10 + 4 * (f * 20 + b) + 3) z) (8 + f) (nI (b + 1)) := ⟨_, rfl⟩
  rw [← he]
  have ku : ∀ k, k ≠ 8 + f → (k < 10 + 4 * (f * 20 + b) ∨ 10 + 4 * (f * 20 + b) + 3 < k) → g' k = g k := fun k q1 q2 => by
    rw [he, pk_un q1, pk_un (by omega), pk_un (by omega), pk_un (by omega), pk_un (by omega)]
  have k0 : g' (10 + 4 * (f * 20 + b) + 0) = d := by rw [he, pk_un (by omega), pk_un (by omega), pk_un (by omega), pk_un (by omega), pk_us]
  have k1 : g' (10 + 4 * (f * 20 + b) + 1) = u := by rw [he, pk_un (by omega), pk_un (by omega), pk_un (by omega), pk_us]
  have k2 : g' (10 + 4 * (f * 20 + b) + 2) = g 2 := by rw [he, pk_un (by omega), pk_un (by omega), pk_us]
  have kf : bn g' f = b + 1 := by unfold bn; rw [he, pk_us, nI_clamp (by omega)]
  have kb : ∀ j, j < 2 → j ≠ f → bn g' j = bn g j := fun j hj q => by unfold bn; rw [ku (8 + j) (by omega) (by omega)]
  have hB : BN g' := by
    intro j hj
    by_cases q : j = f
    · subst q; rw [kf]; exact ⟨by rw [he, pk_us], by omega⟩
    · rw [kb j hj q, ku (8 + j) (by omega) (by omega)]; exact h.bN j hj
  have ew : ∀ r, r ≠ f * 20 + b → wI g' r = wI g r := fun r q => by unfold wI; rw [ku _ (by omega) (by omega), ku _ (by omega) (by omega)]
  have n0 := i_n20 h (f := 0) (by omega)
  have n1 := i_n20 h (f := 1) (by omega)
  have ef : ∀ j, j < 2 → ∀ n, n ≤ 20 → (j = f → n ≤ b) → fI g' j n = fI g j n := fun j hj n => by
    induction n with
    | zero => intros; rfl
    | succ n ih =>
      intro q1 q2
      show fI g' j n + wI g' (j * 20 + n) = fI g j n + wI g (j * 20 + n)
      have q3 : j * 20 + n ≠ f * 20 + b := by
        by_cases q : j = f
        · have := q2 q; subst q; omega
        · omega
      rw [ih (by omega) (fun q => by have := q2 q; omega), ew _ q3]
  have el : fI g' f (b + 1) = fI g f b + (d.toInt + 2 * (g 2).toInt) := by
    show fI g' f b + wI g' (f * 20 + b) = _
    rw [ef f hf b (by omega) (fun _ => Nat.le_refl _)]
    unfold wI
    rw [k0, k2]
  unfold Inv
  rw [ku 0 (by omega) (by omega), ku 1 (by omega) (by omega), ku 2 (by omega) (by omega), ku 3 (by omega) (by omega), ku 4 (by omega) (by omega)]
  refine ⟨hB, h.L1, h.L2, h.G1, h.G2, h.M1, h.M2, h.H1, h.H2, h.S1, h.S2, fun j b' hj hb2 => ?_, ?_⟩
  · by_cases q : j = f ∧ b' = b
    · obtain ⟨rfl, rfl⟩ := q
      rw [k0, k1, k2]
      exact ⟨d1, d2, h.M1, h.M2, u1, u2⟩
    · have hb3 : b' < bn g j := by
        by_cases q2 : j = f
        · subst q2; rw [kf] at hb2; omega
        · rw [kb j hj q2] at hb2; exact hb2
      have hn := i_n20 h hj
      have q3 : j * 20 + b' ≠ f * 20 + b := by
        by_cases q2 : j = f
        · subst q2; omega
        · omega
      rw [ku _ (by omega) (by omega), ku _ (by omega) (by omega), ku _ (by omega) (by omega)]
      exact h.rows j b' hj hb3
  · rcases (show f = 0 ∨ f = 1 by omega) with rfl | rfl
    · rw [kf, kb 1 (by omega) (by omega), el, ef 1 (by omega) _ n1 (fun q => by omega)]
      rw [← hbb] at hg
      omega
    · rw [kf, kb 0 (by omega) (by omega), el, ef 0 (by omega) _ n0 (fun q => by omega)]
      rw [← hbb] at hg
      omega
