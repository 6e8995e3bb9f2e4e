/-! Carrying out: the whole text -/
theorem wt_f {b : Bool} (h : b = false) : ¬ b = true := by rw [h]; decide
theorem mh_s {P : Nat → Int32} {n r p k : Nat} {g : Nat → Int32} : mh P n (r + 1) p k g = if (md P n p g).1 = true then
      (if (mo P n p).1.2 = true then ((k + 1, (md P n p g).2), (mo P n p).1, chr P n p, (mo P n p).2.1, (mo P n p).2.2.1, (mo P n p).2.2.2)
       else if (mo P n p).1.1 < n then
         (if (sg P n 59 59 (mo P n p).1).2 = true then ((k + 1, (md P n p g).2), sg P n 59 59 (mo P n p).1, chr P n p, (mo P n p).2.1, (mo P n p).2.2.1, (mo P n p).2.2.2)
          else mh P n r (sg P n 59 59 (mo P n p).1).1 (k + 1) (md P n p g).2)
       else ((k + 1, (md P n p g).2), (mo P n p).1, chr P n p, (mo P n p).2.1, (mo P n p).2.2.1, (mo P n p).2.2.2))
    else ((k, (md P n p g).2), (mo P n p).1, chr P n p, (mo P n p).2.1, (mo P n p).2.2.1, (mo P n p).2.2.2) := rfl
theorem cko_s {P : Nat → Int32} {n r k : Nat} {z : Nat × Bool} {F : cF} {g : Nat → Int32} : cko P n (r + 1) z F k g =
    if z.2 = true then ((k, g), z, F) else if z.1 < n then
      (if 0 ≤ (cdo g (rnx P n z.1 F).2).1 then cko P n r (rnx P n z.1 F).1 (rnx P n z.1 F).2 (k + 1) (cdo g (rnx P n z.1 F).2).2
       else ((k, (cdo g (rnx P n z.1 F).2).2), rnx P n z.1 F))
    else ((k, g), z, F) := rfl
theorem cko_end {P : Nat → Int32} {n r k : Nat} {z : Nat × Bool} {F : cF} {g : Nat → Int32} (h : ¬ z.1 < n) : cko P n r z F k g = ((k, g), z, F) := by
  cases r with
  | zero => rfl
  | succ r =>
    rw [cko_s]
    by_cases q : z.2 = true
    · rw [if_pos q]
    · rw [if_neg q, if_neg h]
theorem mg_ff {P : Nat → Int32} {n R p : Nat} (h : (mg P n (R + 1) p).1.2 = false) : (mo P n p).1.2 = false ∧ ((mo P n p).1.1 < n → (sg P n 59 59 (mo P n p).1).2 = false ∧ (mg P n R (sg P n 59 59 (mo P n p).1).1).1.2 = false) := by
  rw [mg_s] at h
  by_cases c1 : (mo P n p).1.2 = true
  · rw [if_pos c1] at h
    dsimp only at h
    rw [c1] at h; cases h
  · rw [if_neg c1] at h
    refine ⟨nt_f c1, fun c2 => ?_⟩
    rw [if_pos c2] at h
    by_cases c3 : (sg P n 59 59 (mo P n p).1).2 = true
    · rw [if_pos c3] at h
      dsimp only at h
      rw [c3] at h; cases h
    · rw [if_neg c3] at h
      exact ⟨nt_f c3, h⟩
/-- the class, an order read -/
def ckb (P : Nat → Int32) (n r p : Nat) (F : cF) (k : Nat) (g : Nat → Int32) : (Nat × (Nat → Int32)) × (Nat × Bool) × cF := if 0 ≤ (cdo g (crf P n p F)).1 then cko P n r (crs P n p) (crf P n p F) (k + 1) (cdo g (crf P n p F)).2 else ((k, (cdo g (crf P n p F)).2), (crs P n p, crf P n p F))
theorem cko_mh {P : Nat → Int32} {n : Nat} : ∀ (r' r p k R : Nat) (g : Nat → Int32) (F : cF), Inv g → p ≤ n → n ≤ p + r → n + 1 ≤ p + r' → (mg P n R p).1.2 = false → (ckb P n r p F k g).1 = (mh P n r' p k g).1 ∧ Inv (mh P n r' p k g).1.2 ∧ (mh P n r' p k g).1.1 ≤ k + r'
  | 0, r, p, k, R, g, F, hI, hp, h1, h2, h3 => by omega
  | r' + 1, r, p, k, 0, g, F, hI, hp, h1, h2, h3 => by cases h3
  | r' + 1, r, p, k, R + 1, g, F, hI, hp, h1, h2, h3 => by
    obtain ⟨m1, m2⟩ := mg_ff h3
    obtain ⟨d1, d2, d3⟩ := cdo_mdo F hI m1
    have hb := mo_bd (P := P) hp
    have hb2 := hb.2 m1
    rw [mh_s, d1, d2]
    unfold ckb
    rw [crs_mo]
    by_cases c : 0 ≤ (cdo g (crf P n p F)).1
    · rw [if_pos c, if_pos (decide_eq_true c), if_neg (wt_f m1)]
      by_cases c2 : (mo P n p).1.1 < n
      · obtain ⟨s1, s2⟩ := m2 c2
        obtain ⟨r1, rfl⟩ : ∃ r1, r = r1 + 1 := ⟨r - 1, by omega⟩
        have er := rnx_e (P := P) (n := n) (z := (mo P n p).1) (F := crf P n p F) (by omega) (wt_f m1)
        rw [if_neg (wt_f s1)] at er
        have hs := sg_bd (P := P) (n := n) (a := 59) (b := 59) (q := (mo P n p).1) (by decide) hb.1
        rw [if_pos c2, if_neg (wt_f s1), cko_s, if_neg (wt_f m1), if_pos c2, er]
        obtain ⟨t1, t2, t3⟩ := cko_mh r' r1 _ (k + 1) R _ (crf P n p F) d3 hs.2 (by omega) (by omega) s2
        exact ⟨t1, t2, by omega⟩
      · rw [if_neg c2, cko_end c2]
        exact ⟨rfl, d3, by dsimp only; omega⟩
    · rw [if_neg c, if_neg (fun q => c (of_decide_eq_true q))]
      exact ⟨rfl, d3, by dsimp only; omega⟩
theorem i_car {P : Nat → Int32} {n : Nat} {F : cF} {g gB : Nat → Int32} (hI : Inv g) (hn : n ≤ 80) : (c_car P n F g gB).1 = (m_car P n g).1 ∧ (c_car P n F g gB).2.1 = (m_car P n g).2.1 ∧ (c_car P n F g gB).2.2.2.1 = (m_car P n g).2.2.2 ∧ (m_car P n g).2.2.1 = decide (0 ≤ (m_car P n g).1) ∧ ((m_car P n g).2.2.1 = true → (c_car P n F g gB).2.2.1 = g) ∧ Inv (m_car P n g).2.1 ∧ (m_car P n g).2.2.2 ≤ n := by
  unfold c_car m_car
  rw [i_fau]
  unfold m_fau
  have hb := mg_bd (P := P) (n := n) (n + 1) 0 (by omega)
  by_cases c : (mg P n (n + 1) 0).1.2 = true
  · have e : ¬ nI (mg P n (n + 1) 0).1.1 = -6 := fun q => by
      have := congrArg Int32.toInt q
      rw [nI_toInt (by omega), show (-6 : Int32).toInt = -6 by decide] at this
      omega
    rw [if_pos c, if_pos c, if_neg e]
    refine ⟨rfl, rfl, rfl, ?_, fun q => ?_, hI, Nat.le_refl _⟩
    · show false = decide ((0 : Int32) ≤ -3); decide
    · cases q
  · have hf := nt_f c
    have e : (-6 : Int32) = -6 := rfl
    rw [if_neg c, if_neg c, if_pos e]
    have h0 : 0 < n := by
      rcases Nat.eq_zero_or_pos n with q | q
      · subst q
        obtain ⟨m1, m2⟩ := mg_ff hf
        have := (mo_bd (P := P) (n := 0) (p := 0) (by omega)).2 m1
        have := (mo_bd (P := P) (n := 0) (p := 0) (by omega)).1
        omega
      · exact q
    obtain ⟨t1, t2, t3⟩ := cko_mh (P := P) (n := n) (n + 1) n 0 0 (n + 1) g (cfp P n F).2 hI (by omega) (by omega) (by omega) hf
    have ec : cko P n (n + 1) (0, false) (cfp P n F).2 0 g = ckb P n n 0 (cfp P n F).2 0 g := by
      rw [cko_s, if_neg (show ¬ ((0, false) : Nat × Bool).2 = true by decide), if_pos (show ((0, false) : Nat × Bool).1 < n from h0)]
      rfl
    rw [ec, t1]
    refine ⟨rfl, rfl, rfl, ?_, fun _ => rfl, t2, Nat.zero_le _⟩
    exact (decide_eq_true (nI_pos' (by omega))).symm
/-! Putting -/
theorem hby_z {N k : Nat} (h : hby N k = 0) : hby N (k + 1) = 0 := by rw [← hb_s, h]
theorem mpt_bad {N : Nat} : ∀ (r k m : Nat), (mpt N r k m true).2 = true
  | 0, _, _ => rfl
  | r + 1, k, m => by
    unfold mpt
    rw [Bool.true_or]
    exact mpt_bad r _ _
theorem mpt_z {N : Nat} : ∀ (r k m : Nat), 0 < k → hby N k = 0 → mpt N r k m false = (m, false)
  | 0, _, _, _, _ => rfl
  | r + 1, k, m, hk, hz => by
    have e : isE N k = true := by unfold isE; simp [hk, hz]
    unfold mpt
    rw [e]
    exact mpt_z r (k + 1) m (by omega) (hby_z hz)
theorem mpt_cci {N : Nat} : ∀ (r k : Nat), 0 < k → (mpt N r k k false = (cci N r k, false) ∧ k ≤ cci N r k) ∨ ((mpt N r k k false).2 = true ∧ cci N r k = 0)
  | 0, k, hk => Or.inl ⟨rfl, Nat.le_refl _⟩
  | r + 1, k, hk => by
    by_cases hz : hby N k = 0
    · left
      have ec : cci N (r + 1) k = k := if_pos hz
      rw [ec]
      exact ⟨mpt_z (r + 1) k k hk hz, Nat.le_refl _⟩
    · have e : isE N k = false := by unfold isE; simp [hz]
      have em : mpt N (r + 1) k k false = mpt N r (k + 1) (k + 1) (!okb (byt N k)) := by
        show mpt N r (k + 1) (k + (if isE N k = true then 0 else 1)) (false || (!isE N k && !okb (byt N k))) = _
        rw [e]; rfl
      by_cases ho : okb (byt N k) = true
      · have ec : cci N (r + 1) k = cci N r (k + 1) := by
          show (if hby N k = 0 then k else if okb (byt N k) = true then cci N r (k + 1) else 0) = _
          rw [if_neg hz, if_pos ho]
        rw [em, ec, ho]
        rcases mpt_cci (N := N) r (k + 1) (by omega) with ⟨a, b⟩ | ⟨a, b⟩
        · exact Or.inl ⟨a, by omega⟩
        · exact Or.inr ⟨a, b⟩
      · right
        have ec : cci N (r + 1) k = 0 := by
          show (if hby N k = 0 then k else if okb (byt N k) = true then cci N r (k + 1) else 0) = _
          rw [if_neg hz, if_neg ho]
        rw [em, ec, nt_f ho]
        exact ⟨mpt_bad r _ _, rfl⟩
theorem i_put {P : Nat → Int32} {n N : Nat} : m_put P n N = c_put P n N := by
  have h0 : (mpt N 8 0 0 false = (cci N 8 0, false) ∧ 1 ≤ cci N 8 0) ∨ ((mpt N 8 0 0 false).2 = true ∧ cci N 8 0 = 0) := by
    have e : isE N 0 = false := by unfold isE; simp
    have em : mpt N 8 0 0 false = mpt N 7 1 1 (!okb (byt N 0)) := by
      show mpt N 7 1 (0 + (if isE N 0 = true then 0 else 1)) (false || (!isE N 0 && !okb (byt N 0))) = _
      rw [e]; rfl
    by_cases hz : hby N 0 = 0
    · right
      have hb : okb (byt N 0) = false := by unfold byt; rw [hz]; decide
      rw [em, hb]
      exact ⟨mpt_bad 7 _ _, if_pos hz⟩
    · by_cases ho : okb (byt N 0) = true
      · have ec : cci N 8 0 = cci N 7 1 := by
          show (if hby N 0 = 0 then 0 else if okb (byt N 0) = true then cci N 7 1 else 0) = _
          rw [if_neg hz, if_pos ho]
        rw [em, ec, ho]
        exact mpt_cci 7 1 (by omega)
      · right
        have ec : cci N 8 0 = 0 := by
          show (if hby N 0 = 0 then 0 else if okb (byt N 0) = true then cci N 7 1 else 0) = _
          rw [if_neg hz, if_neg ho]
        rw [em, ec, nt_f ho]
        exact ⟨mpt_bad 7 _ _, rfl⟩
  unfold m_put c_put
  rcases h0 with ⟨a, b⟩ | ⟨a, b⟩
  · rw [a]
    dsimp only
    rw [if_neg (by decide), if_pos b, apc_apm]
  · rw [if_pos a, b, if_neg (by omega)]
theorem cci_ok {N : Nat} : ∀ (r k : Nat), ¬ cci N r k = 0 → ∀ j, k ≤ j → j < cci N r k → okb (byt N j) = true
  | 0, k, _, j, h1, h2 => by have : cci N 0 k = k := rfl
                             omega
  | r + 1, k, h, j, h1, h2 => by
    have ec : cci N (r + 1) k = (if hby N k = 0 then k else if okb (byt N k) = true then cci N r (k + 1) else 0) := rfl
    rw [ec] at h h2
    by_cases hz : hby N k = 0
    · rw [if_pos hz] at h2; omega
    · rw [if_neg hz] at h h2
      by_cases ho : okb (byt N k) = true
      · rw [if_pos ho] at h h2
        by_cases q : j = k
        · subst q; exact ho
        · exact cci_ok r (k + 1) h j (by omega) h2
      · rw [if_neg ho] at h; exact absurd rfl h
theorem i_pch {P : Nat → Int32} {n N : Nat} (h : CH P n) (hn : n ≤ 80) : CH (c_put P n N).2.1 (c_put P n N).2.2 ∧ (c_put P n N).2.2 ≤ 80 := by
  unfold c_put
  by_cases c1 : 1 ≤ cci N 8 0
  · rw [if_pos c1]
    by_cases c2 : n + cci N 8 0 ≤ 80
    · rw [if_pos c2]
      refine ⟨fun j hj => ?_, c2⟩
      dsimp only at hj ⊢
      unfold apc
      by_cases q : n ≤ j ∧ j < n + (cci N 8 0 - 0)
      · rw [if_pos q]
        have := cci_ok (N := N) 8 0 (by omega) (cci N 8 0 - 1 - (j - n)) (by omega) (by omega)
        unfold okb at this
        have := of_decide_eq_true this
        exact ⟨_, by omega, rfl⟩
      · rw [if_neg q]
        exact h j (by omega)
    · rw [if_neg c2]; exact ⟨h, hn⟩
  · rw [if_neg c1]; exact ⟨h, hn⟩
