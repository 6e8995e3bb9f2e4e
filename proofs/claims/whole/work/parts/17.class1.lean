/-! The class's reader: its state and its values (kind, file, number, sum, backwards) behind an order -/
def crs (P : Nat → Int32) (n p : Nat) : Nat × Bool :=
  if chr P n p = 119 then (cn P n (sg P n 35 35 (cn P n (sg P n 58 58 (sg P n 48 49 (p + 1, false)))).2)).2
  else if chr P n p = 114 then (let r := (cn P n (sg P n 46 46 (sg P n 48 49 (p + 1, false)))).2; (ptq P n 45 r, r.2))
  else if chr P n p = 99 then (cn P n (sg P n 46 46 (sg P n 48 49 (p + 1, false)))).2
  else if chr P n p = 109 then (cn P n (p + 1, false)).2
  else if chr P n p = 120 then (p + 1, false) else (p, true)
abbrev cF : Type := Int32 × Int32 × Int32 × Int32 × Int32
def crf (P : Nat → Int32) (n p : Nat) (F : cF) : cF :=
  if chr P n p = 119 then (119, fl P n (p + 1, false), (cn P n (sg P n 58 58 (sg P n 48 49 (p + 1, false)))).1, (cn P n (sg P n 35 35 (cn P n (sg P n 58 58 (sg P n 48 49 (p + 1, false)))).2)).1, F.2.2.2.2)
  else if chr P n p = 114 then (114, fl P n (p + 1, false), (cn P n (sg P n 46 46 (sg P n 48 49 (p + 1, false)))).1, F.2.2.2.1, b2 (ptb P n 45 (cn P n (sg P n 46 46 (sg P n 48 49 (p + 1, false)))).2))
  else if chr P n p = 99 then (99, fl P n (p + 1, false), (cn P n (sg P n 46 46 (sg P n 48 49 (p + 1, false)))).1, F.2.2.2.1, F.2.2.2.2)
  else if chr P n p = 109 then (109, F.2.1, (cn P n (p + 1, false)).1, F.2.2.2.1, F.2.2.2.2)
  else if chr P n p = 120 then (120, F.2.1, F.2.2.1, F.2.2.2.1, F.2.2.2.2)
  else (chr P n p, F.2.1, F.2.2.1, F.2.2.2.1, F.2.2.2.2)
/-- readNext, from a place where nothing is wrong -/
def rnx (P : Nat → Int32) (n p : Nat) (F : cF) : (Nat × Bool) × cF :=
  if p = 0 then (crs P n 0, crf P n 0 F)
  else if (sg P n 59 59 (p, false)).2 = true then (sg P n 59 59 (p, false), F)
  else (crs P n (sg P n 59 59 (p, false)).1, crf P n (sg P n 59 59 (p, false)).1 F)
def ck (P : Nat → Int32) (n : Nat) : Nat → Nat × Bool → cF → (Nat × Bool) × cF
  | 0, z, F => (z, F)
  | r + 1, z, F => if z.2 = true then (z, F) else if z.1 < n then ck P n r (rnx P n z.1 F).1 (rnx P n z.1 F).2 else (z, F)
def cfp (P : Nat → Int32) (n : Nat) (F : cF) : (Nat × Bool) × cF := ck P n n (rnx P n 0 F).1 (rnx P n 0 F).2
def cdo (g : Nat → Int32) (F : cF) : Int32 × (Nat → Int32) := if F.1 = 119 then s_add g F.2.1 F.2.2.1 F.2.2.2.1 else if F.1 = 114 then s_rd g F.2.1 F.2.2.1 F.2.2.2.2 else if F.1 = 99 then s_cut g F.2.1 F.2.2.1 else if F.1 = 109 then s_mov g F.2.2.1 else if F.1 = 120 then s_rew g else (-3, g)
theorem ptq_sg {P : Nat → Int32} {n : Nat} {r : Nat × Bool} : (ptq P n 45 r, r.2) = if nx P n 45 45 r = true then sg P n 45 45 r else r := by
  obtain ⟨q, w⟩ := r
  unfold ptq
  have e : nx P n 45 45 (q, w) = ptb P n 45 (q, w) := by
    unfold nx ptb
    cases w
    · simp only [Bool.false_eq_true, ↓reduceIte, inr_cc]
      by_cases hq : q < n
      · rw [if_pos hq, show chr P n q = P q from if_pos hq]
        by_cases h : P q = 45
        · rw [if_pos h, if_pos h, if_neg (by decide)]
        · rw [if_neg h, if_neg h, if_pos rfl]
      · rw [if_neg hq, show chr P n q = 0 from if_neg hq, if_neg (by decide)]
    · rfl
  rw [e]
  cases h : ptb P n 45 (q, w)
  · simp
  · rw [sg_pt h]; simp
theorem nx_ptb {P : Nat → Int32} {n : Nat} {r : Nat × Bool} : nx P n 45 45 r = ptb P n 45 r := by
  obtain ⟨q, w⟩ := r
  unfold nx ptb
  cases w
  · simp only [Bool.false_eq_true, ↓reduceIte, inr_cc]
    by_cases hq : q < n
    · rw [if_pos hq, show chr P n q = P q from if_pos hq]
      by_cases h : P q = 45
      · rw [if_pos h, if_pos h, if_neg (by decide)]
      · rw [if_neg h, if_neg h, if_pos rfl]
    · rw [if_neg hq, show chr P n q = 0 from if_neg hq, if_neg (by decide)]
  · rfl
/-- the class's state behind an order is the model's -/
theorem crs_mo (P : Nat → Int32) (n p : Nat) : crs P n p = (mo P n p).1 := by
  unfold crs mo
  split
  · unfold mo_w
    simp only [(cn_nm _).1]
  · split
    · unfold mo_r
      simp only [(cn_nm _).1, ptq_sg]
    · split
      · unfold mo_c
        simp only [(cn_nm _).1]
      · split
        · unfold mo_m
          simp only [(cn_nm _).1]
        · split
          · rfl
          · exact nm_true.symm
theorem crs_bd {P : Nat → Int32} {n p : Nat} (hp : p ≤ n) : (crs P n p).1 ≤ n ∧ ((crs P n p).2 = false → p < (crs P n p).1) := by rw [crs_mo]; exact mo_bd hp
theorem rnx_bd {P : Nat → Int32} {n p : Nat} {F : cF} (hp : p ≤ n) : (rnx P n p F).1.1 ≤ n ∧ ((rnx P n p F).1.2 = false → p < (rnx P n p F).1.1) := by
  unfold rnx
  split
  · rename_i h; subst h; exact crs_bd hp
  · have h1 := sg_bd (P := P) (n := n) (a := 59) (b := 59) (q := (p, false)) (by decide) hp
    split
    · rename_i h
      exact ⟨h1.2, fun z => by rw [h] at z; cases z⟩
    · have h2 := crs_bd (P := P) (n := n) h1.2
      exact ⟨h2.1, fun z => by have := h2.2 z; have := h1.1; dsimp only at *; omega⟩
set_option maxHeartbeats 4000000 in
set_option maxRecDepth 100000 in
theorem c_P_size (l : Launch) (D : va_G) (ca : Nat → ClassId) (po tx pl : Nat)  : RO l y_P_size b_P_size 1 (some .int) 0 0 D ca [.ref po] [(po, .inr (2, [.ref tx, .int (nI pl)]))] (nI pl) := by
  refine RO.mk (ty := .int) rfl rfl (Nat.le_of_ble_eq_true rfl) ?_
  intro p e s m args below meth c Q S hP hK
  obtain ⟨hx, hb, hml, hown, hts⟩ := id S
  intro hret ls hl0
  have hl : lv_has ls 1 [(0, .ref po)] := hl0
  refine lv_aload_n hx hb d_P_size_0 rfl (lv_at hl 0 rfl) ?_
  refine f_get S cls_P hK hP 0 rfl 1 (by decide) fl_P_size rfl rfl d_P_size_1 ?_
  exact hret _ _ _ d_P_size_4 rfl (by first | (simp only [↓reduceIte]; done) | (simp only [↓reduceIte]; rfl) | rfl)
set_option maxHeartbeats 4000000 in
set_option maxRecDepth 100000 in
theorem c_P_clear (l : Launch) (D : va_G) (ca : Nat → ClassId) (po tx pl : Nat)  : MI l y_P_clear b_P_clear 2 (some .int) 0 0 D ca [.ref po] [(po, .inr (2, [.ref tx, .int (nI pl)]))] (nI pl) [(po, .inr (2, [.ref tx, .int (nI 0)]))] := by
  refine MI.mk (ty := .int) rfl rfl (Nat.le_of_ble_eq_true rfl) ?_
  intro p e s m args below meth c Q A S hA hP hD hK
  obtain ⟨hx, hb, hml, hown, hts⟩ := id S
  intro hret ls hl0 hS
  have hl : lv_has ls 2 [(0, .ref po)] := hl0
  refine lv_aload_n hx hb d_P_clear_0 rfl (lv_at hl 0 rfl) ?_
  refine f_get S cls_P hK hP 0 rfl 1 (by decide) fl_P_size rfl rfl d_P_clear_1 ?_
  refine lv_istore_n (lv' := [(1, .int (nI pl)), (0, .ref po)]) hx hb d_P_clear_4 rfl hl (by decide) rfl (fun ls hl => ?_)
  refine lv_aload_n hx hb d_P_clear_5 rfl (lv_at hl 1 rfl) ?_
  refine lv_iconst (v := 0) hx hb d_P_clear_6 (by decide) ?_
  refine f_put S cls_P hK hP hD hS 0 rfl 1 (by decide) fl_P_size rfl rfl (rfl) (rfl) (Nat.le_of_ble_eq_true rfl) d_P_clear_7 (fun H locs hP hD hS => ?_)
  have hP : va_P D classes [(po, .inr (2, [.ref tx, .int 0]))] H := hP
  have hD : va_D A [(po, .inr (2, [.ref tx, .int 0]))] := hD
  refine lv_iload_n hx hb d_P_clear_10 rfl (lv_at hl 0 rfl) ?_
  exact hret _ _ _ _ _ _ d_P_clear_11 rfl (by first | (simp only [↓reduceIte]; done) | (simp only [↓reduceIte]; rfl) | rfl) (by first | (simp only [↓reduceIte]; done) | (simp only [↓reduceIte]; rfl) | rfl) hP hD hS
set_option maxHeartbeats 4000000 in
set_option maxRecDepth 100000 in
theorem c_P_characterAt (l : Launch) (D : va_G) (ca : Nat → ClassId) (po tx : Nat) (P : Nat → Int32) (pl q : Nat) (hpl : pl ≤ 80) (hq : q ≤ pl) (hCH : CH P pl) : RO l y_P_characterAt b_P_characterAt 2 (some .char) 0 0 D ca [.ref po, .int (nI q)] [(po, .inr (2, [.ref tx, .int (nI pl)])), (tx, .inl (ca 2, 80, .inl P))] (chr P pl q) := by
  refine RO.mk (ty := .char) rfl rfl (Nat.le_of_ble_eq_true rfl) ?_
  intro p e s m args below meth c Q S hP hK
  obtain ⟨hx, hb, hml, hown, hts⟩ := id S
  intro hret ls hl0
  have hl : lv_has ls 2 [(0, .ref po), (1, .int (nI q))] := hl0
  refine lv_iload_n hx hb d_P_characterAt_0 rfl (lv_at hl 1 rfl) ?_
  refine lv_if_lt (tgt := 21) hx hb d_P_characterAt_1 (by decide) (fun q => absurd q (nI_pos (by omega))) (fun _ => ?_)
  refine lv_iload_n hx hb d_P_characterAt_4 rfl (lv_at hl 1 rfl) ?_
  refine lv_aload_n hx hb d_P_characterAt_5 rfl (lv_at hl 0 rfl) ?_
  refine f_get S cls_P hK hP 0 rfl 1 (by decide) fl_P_size rfl rfl d_P_characterAt_6 ?_
  refine lv_icmp_ge (tgt := 21) hx hb d_P_characterAt_9 (by decide) (fun c_9 => ?_) (fun c_9 => ?_)
  · have e_9 : ¬ q < pl := by have := le_of_nI (by omega) (by omega) c_9; omega
    refine lv_iconst (v := 0) hx hb d_P_characterAt_21 (by decide) ?_
    exact hret _ _ _ d_P_characterAt_22 rfl (by first | (simp only [chr, e_9, ↓reduceIte]; done) | (simp only [chr, e_9, ↓reduceIte]; rfl) | rfl)
  · have e_9 : q < pl := nle_lt (by omega) (by omega) c_9
    refine lv_aload_n hx hb d_P_characterAt_12 rfl (lv_at hl 0 rfl) ?_
    refine f_get S cls_P hK hP 0 rfl 0 (by decide) fl_P_text rfl rfl d_P_characterAt_13 ?_
    refine lv_iload_n hx hb d_P_characterAt_16 rfl (lv_at hl 1 rfl) ?_
    refine A_cld S hK hP 1 2 (f := P) rfl rfl (r := q) (by omega) (by decide) rfl d_P_characterAt_17 ?_
    refine lv_goto (tgt := 22) hx hb d_P_characterAt_18 (by decide) ?_
    exact hret _ _ _ d_P_characterAt_22 (nar_P hCH e_9) (by first | (simp only [chr, e_9, ↓reduceIte]; done) | (simp only [chr, e_9, ↓reduceIte]; rfl) | rfl)
set_option maxHeartbeats 4000000 in
set_option maxRecDepth 100000 in
theorem c_R_startAgain (l : Launch) (D : va_G) (ca : Nat → ClassId) (ro po tx : Nat) (P : Nat → Int32) (pl q : Nat) (wb : Bool) (ki fi nu su bw : Int32)  : MV l y_R_startAgain b_R_startAgain 1 0 0 D ca [.ref ro] [(ro, .inr (3, [.ref po, .int (nI q), .int (b2 wb), .int ki, .int fi, .int nu, .int su, .int bw])), (po, .inr (2, [.ref tx, .int (nI pl)])), (tx, .inl (ca 2, 80, .inl P))] [(ro, .inr (3, [.ref po, .int (nI 0), .int (b2 false), .int ki, .int fi, .int nu, .int su, .int bw])), (po, .inr (2, [.ref tx, .int (nI pl)])), (tx, .inl (ca 2, 80, .inl P))] := by
  refine MV.mk rfl (Nat.le_of_ble_eq_true rfl) ?_
  intro p e s m args below meth c Q A S hA hP hD hK
  obtain ⟨hx, hb, hml, hown, hts⟩ := id S
  intro hret ls hl0 hS
  have hl : lv_has ls 1 [(0, .ref ro)] := hl0
  refine lv_aload_n hx hb d_R_startAgain_0 rfl (lv_at hl 0 rfl) ?_
  refine lv_iconst (v := 0) hx hb d_R_startAgain_1 (by decide) ?_
  refine f_put S cls_R hK hP hD hS 0 rfl 1 (by decide) fl_R_position rfl rfl (rfl) (rfl) (Nat.le_of_ble_eq_true rfl) d_R_startAgain_2 (fun H locs hP hD hS => ?_)
  have hP : va_P D classes [(ro, .inr (3, [.ref po, .int 0, .int (b2 wb), .int ki, .int fi, .int nu, .int su, .int bw])), (po, .inr (2, [.ref tx, .int (nI pl)])), (tx, .inl (ca 2, 80, .inl P))] H := hP
  have hD : va_D A [(ro, .inr (3, [.ref po, .int 0, .int (b2 wb), .int ki, .int fi, .int nu, .int su, .int bw])), (po, .inr (2, [.ref tx, .int (nI pl)])), (tx, .inl (ca 2, 80, .inl P))] := hD
  refine lv_aload_n hx hb d_R_startAgain_5 rfl (lv_at hl 0 rfl) ?_
  refine lv_iconst (v := 0) hx hb d_R_startAgain_6 (by decide) ?_
  refine f_put S cls_R hK hP hD hS 0 rfl 2 (by decide) fl_R_failed rfl rfl (rfl) (rfl) (Nat.le_of_ble_eq_true rfl) d_R_startAgain_7 (fun H locs hP hD hS => ?_)
  have hP : va_P D classes [(ro, .inr (3, [.ref po, .int 0, .int 0, .int ki, .int fi, .int nu, .int su, .int bw])), (po, .inr (2, [.ref tx, .int (nI pl)])), (tx, .inl (ca 2, 80, .inl P))] H := hP
  have hD : va_D A [(ro, .inr (3, [.ref po, .int 0, .int 0, .int ki, .int fi, .int nu, .int su, .int bw])), (po, .inr (2, [.ref tx, .int (nI pl)])), (tx, .inl (ca 2, 80, .inl P))] := hD
  exact hret _ _ _ _ _ d_R_startAgain_10 (by first | (simp only [↓reduceIte]; done) | (simp only [↓reduceIte]; rfl) | rfl) hP hD hS
set_option maxHeartbeats 4000000 in
set_option maxRecDepth 100000 in
theorem c_R_hasMore (l : Launch) (D : va_G) (ca : Nat → ClassId) (ro po tx : Nat) (P : Nat → Int32) (pl q : Nat) (wb : Bool) (ki fi nu su bw : Int32) (hpl : pl ≤ 80) (hq : q ≤ pl) : RO l y_R_hasMore b_R_hasMore 1 (some .boolean) 1 20 D ca [.ref ro] [(ro, .inr (3, [.ref po, .int (nI q), .int (b2 wb), .int ki, .int fi, .int nu, .int su, .int bw])), (po, .inr (2, [.ref tx, .int (nI pl)])), (tx, .inl (ca 2, 80, .inl P))] (b2 (if wb = true then false else decide (q < pl))) := by
  refine RO.mk (ty := .boolean) rfl rfl (Nat.le_of_ble_eq_true rfl) ?_
  intro p e s m args below meth c Q S hP hK
  obtain ⟨hx, hb, hml, hown, hts⟩ := id S
  intro hret ls hl0
  have hl : lv_has ls 1 [(0, .ref ro)] := hl0
  cases wb
  · refine lv_aload_n hx hb d_R_hasMore_0 rfl (lv_at hl 0 rfl) ?_
    refine f_get S cls_R hK hP 0 rfl 2 (by decide) fl_R_failed rfl rfl d_R_hasMore_1 ?_
    refine lv_if_ne (tgt := 25) hx hb d_R_hasMore_4 (by decide) (fun q => absurd (by decide) q) (fun _ => ?_)
    refine lv_aload_n hx hb d_R_hasMore_7 rfl (lv_at hl 0 rfl) ?_
    refine f_get S cls_R hK hP 0 rfl 1 (by decide) fl_R_position rfl rfl d_R_hasMore_8 ?_
    refine lv_aload_n hx hb d_R_hasMore_11 rfl (lv_at hl 0 rfl) ?_
    refine f_get S cls_R hK hP 0 rfl 0 (by decide) fl_R_pad rfl rfl d_R_hasMore_12 ?_
    refine RO.callV S (c_P_size l D ca  po tx pl ) k_R_25 hP hK [1] rfl 1 (ci := 2) (fs := [.ref tx, .int (nI pl)]) rfl rfl rfl rfl hl.1 ⟨Nat.le_of_ble_eq_true rfl, Nat.le_of_ble_eq_true rfl⟩ ⟨Nat.zero_le _, Nat.zero_le _⟩ (Nat.le_of_ble_eq_true rfl) d_R_hasMore_15 ?_
    refine lv_icmp_ge (tgt := 25) hx hb d_R_hasMore_18 (by decide) (fun c_18 => ?_) (fun c_18 => ?_)
    · have e_18 : ¬ q < pl := by have := le_of_nI (by omega) (by omega) c_18; omega
      refine lv_iconst (v := 0) hx hb d_R_hasMore_25 (by decide) ?_
      exact hret _ _ _ d_R_hasMore_26 rfl (by first | (simp only [Bool.false_eq_true, decide_true, decide_false, e_18, ↓reduceIte]; done) | (simp only [Bool.false_eq_true, decide_true, decide_false, e_18, ↓reduceIte]; rfl) | rfl)
    · have e_18 : q < pl := nle_lt (by omega) (by omega) c_18
      refine lv_iconst (v := 1) hx hb d_R_hasMore_21 (by decide) ?_
      refine lv_goto (tgt := 26) hx hb d_R_hasMore_22 (by decide) ?_
      exact hret _ _ _ d_R_hasMore_26 rfl (by first | (simp only [Bool.false_eq_true, decide_true, decide_false, e_18, ↓reduceIte]; done) | (simp only [Bool.false_eq_true, decide_true, decide_false, e_18, ↓reduceIte]; rfl) | rfl)
  · refine lv_aload_n hx hb d_R_hasMore_0 rfl (lv_at hl 0 rfl) ?_
    refine f_get S cls_R hK hP 0 rfl 2 (by decide) fl_R_failed rfl rfl d_R_hasMore_1 ?_
    refine lv_if_ne (tgt := 25) hx hb d_R_hasMore_4 (by decide) (fun _ => ?_) (fun q => absurd q (by decide))
    refine lv_iconst (v := 0) hx hb d_R_hasMore_25 (by decide) ?_
    exact hret _ _ _ d_R_hasMore_26 rfl (by first | (simp only [Bool.false_eq_true, decide_true, decide_false, ↓reduceIte]; done) | (simp only [Bool.false_eq_true, decide_true, decide_false, ↓reduceIte]; rfl) | rfl)
set_option maxHeartbeats 4000000 in
set_option maxRecDepth 100000 in
theorem c_R_isDigitNext (l : Launch) (D : va_G) (ca : Nat → ClassId) (ro po tx : Nat) (P : Nat → Int32) (pl q : Nat) (wb : Bool) (ki fi nu su bw : Int32) (hpl : pl ≤ 80) (hq : q ≤ pl) (hCH : CH P pl) : RO l y_R_isDigitNext b_R_isDigitNext 2 (some .boolean) 1 21 D ca [.ref ro] [(ro, .inr (3, [.ref po, .int (nI q), .int (b2 wb), .int ki, .int fi, .int nu, .int su, .int bw])), (po, .inr (2, [.ref tx, .int (nI pl)])), (tx, .inl (ca 2, 80, .inl P))] (b2 (dgn P pl (q, wb))) := by
  refine RO.mk (ty := .boolean) rfl rfl (Nat.le_of_ble_eq_true rfl) ?_
  intro p e s m args below meth c Q S hP hK
  obtain ⟨hx, hb, hml, hown, hts⟩ := id S
  intro hret ls hl0
  have hl : lv_has ls 2 [(0, .ref ro)] := hl0
  cases wb
  · refine lv_aload_n hx hb d_R_isDigitNext_0 rfl (lv_at hl 0 rfl) ?_
    refine f_get S cls_R hK hP 0 rfl 0 (by decide) fl_R_pad rfl rfl d_R_isDigitNext_1 ?_
    refine lv_aload_n hx hb d_R_isDigitNext_4 rfl (lv_at hl 0 rfl) ?_
    refine f_get S cls_R hK hP 0 rfl 1 (by decide) fl_R_position rfl rfl d_R_isDigitNext_5 ?_
    refine RO.callV S (c_P_characterAt l D ca  po tx P pl q (by omega) (by omega) (by omega)) k_R_82 hP hK [1, 2] rfl 1 (ci := 2) (fs := [.ref tx, .int (nI pl)]) rfl rfl rfl rfl hl.1 ⟨Nat.le_of_ble_eq_true rfl, Nat.le_of_ble_eq_true rfl⟩ ⟨Nat.zero_le _, Nat.zero_le _⟩ (Nat.le_of_ble_eq_true rfl) d_R_isDigitNext_8 ?_
    refine lv_istore_n (lv' := [(1, .int (chr P pl q)), (0, .ref ro)]) hx hb d_R_isDigitNext_11 rfl hl (by decide) rfl (fun ls hl => ?_)
    refine lv_aload_n hx hb d_R_isDigitNext_12 rfl (lv_at hl 1 rfl) ?_
    refine f_get S cls_R hK hP 0 rfl 2 (by decide) fl_R_failed rfl rfl d_R_isDigitNext_13 ?_
    refine lv_if_ne (tgt := 35) hx hb d_R_isDigitNext_16 (by decide) (fun q => absurd (by decide) q) (fun _ => ?_)
    refine lv_iload_n hx hb d_R_isDigitNext_19 rfl (lv_at hl 0 rfl) ?_
    refine lv_bipush (v := 48) hx hb d_R_isDigitNext_20 (by decide) ?_
    refine lv_icmp_lt (tgt := 35) hx hb d_R_isDigitNext_22 (by decide) (fun c_22 => ?_) (fun c_22 => ?_)
    · refine lv_iconst (v := 0) hx hb d_R_isDigitNext_35 (by decide) ?_
      exact hret _ _ _ d_R_isDigitNext_36 rfl (by first | (simp only [dgn, Bool.false_eq_true, c_22, ↓reduceIte]; done) | (simp only [dgn, Bool.false_eq_true, c_22, ↓reduceIte]; rfl) | rfl)
    · refine lv_iload_n hx hb d_R_isDigitNext_25 rfl (lv_at hl 0 rfl) ?_
      refine lv_bipush (v := 57) hx hb d_R_isDigitNext_26 (by decide) ?_
      refine lv_icmp_gt (tgt := 35) hx hb d_R_isDigitNext_28 (by decide) (fun c_28 => ?_) (fun c_28 => ?_)
      · refine lv_iconst (v := 0) hx hb d_R_isDigitNext_35 (by decide) ?_
        exact hret _ _ _ d_R_isDigitNext_36 rfl (by first | (simp only [dgn, Bool.false_eq_true, c_22, c_28, ↓reduceIte]; done) | (simp only [dgn, Bool.false_eq_true, c_22, c_28, ↓reduceIte]; rfl) | rfl)
      · refine lv_iconst (v := 1) hx hb d_R_isDigitNext_31 (by decide) ?_
        refine lv_goto (tgt := 36) hx hb d_R_isDigitNext_32 (by decide) ?_
        exact hret _ _ _ d_R_isDigitNext_36 rfl (by first | (simp only [dgn, Bool.false_eq_true, c_22, c_28, ↓reduceIte]; done) | (simp only [dgn, Bool.false_eq_true, c_22, c_28, ↓reduceIte]; rfl) | rfl)
  · refine lv_aload_n hx hb d_R_isDigitNext_0 rfl (lv_at hl 0 rfl) ?_
    refine f_get S cls_R hK hP 0 rfl 0 (by decide) fl_R_pad rfl rfl d_R_isDigitNext_1 ?_
    refine lv_aload_n hx hb d_R_isDigitNext_4 rfl (lv_at hl 0 rfl) ?_
    refine f_get S cls_R hK hP 0 rfl 1 (by decide) fl_R_position rfl rfl d_R_isDigitNext_5 ?_
    refine RO.callV S (c_P_characterAt l D ca  po tx P pl q (by omega) (by omega) (by omega)) k_R_82 hP hK [1, 2] rfl 1 (ci := 2) (fs := [.ref tx, .int (nI pl)]) rfl rfl rfl rfl hl.1 ⟨Nat.le_of_ble_eq_true rfl, Nat.le_of_ble_eq_true rfl⟩ ⟨Nat.zero_le _, Nat.zero_le _⟩ (Nat.le_of_ble_eq_true rfl) d_R_isDigitNext_8 ?_
    refine lv_istore_n (lv' := [(1, .int (chr P pl q)), (0, .ref ro)]) hx hb d_R_isDigitNext_11 rfl hl (by decide) rfl (fun ls hl => ?_)
    refine lv_aload_n hx hb d_R_isDigitNext_12 rfl (lv_at hl 1 rfl) ?_
    refine f_get S cls_R hK hP 0 rfl 2 (by decide) fl_R_failed rfl rfl d_R_isDigitNext_13 ?_
    refine lv_if_ne (tgt := 35) hx hb d_R_isDigitNext_16 (by decide) (fun _ => ?_) (fun q => absurd q (by decide))
    refine lv_iconst (v := 0) hx hb d_R_isDigitNext_35 (by decide) ?_
    exact hret _ _ _ d_R_isDigitNext_36 rfl (by first | (simp only [dgn, Bool.false_eq_true, ↓reduceIte]; done) | (simp only [dgn, Bool.false_eq_true, ↓reduceIte]; rfl) | rfl)
set_option maxHeartbeats 4000000 in
set_option maxRecDepth 100000 in
theorem c_R_passIfThere (l : Launch) (D : va_G) (ca : Nat → ClassId) (ro po tx : Nat) (P : Nat → Int32) (pl q : Nat) (wb : Bool) (ki fi nu su bw : Int32) (cc : Int32) (hpl : pl ≤ 80) (hq : q ≤ pl) (hCH : CH P pl) : MI l y_R_passIfThere b_R_passIfThere 2 (some .boolean) 1 21 D ca [.ref ro, .int cc] [(ro, .inr (3, [.ref po, .int (nI q), .int (b2 wb), .int ki, .int fi, .int nu, .int su, .int bw])), (po, .inr (2, [.ref tx, .int (nI pl)])), (tx, .inl (ca 2, 80, .inl P))] (b2 (ptb P pl cc (q, wb))) [(ro, .inr (3, [.ref po, .int (nI (ptq P pl cc (q, wb))), .int (b2 wb), .int ki, .int fi, .int nu, .int su, .int bw])), (po, .inr (2, [.ref tx, .int (nI pl)])), (tx, .inl (ca 2, 80, .inl P))] := by
  refine MI.mk (ty := .boolean) rfl rfl (Nat.le_of_ble_eq_true rfl) ?_
  intro p e s m args below meth c Q A S hA hP hD hK
  obtain ⟨hx, hb, hml, hown, hts⟩ := id S
  intro hret ls hl0 hS
  have hl : lv_has ls 2 [(0, .ref ro), (1, .int cc)] := hl0
  cases wb
  · refine lv_aload_n hx hb d_R_passIfThere_0 rfl (lv_at hl 0 rfl) ?_
    refine f_get S cls_R hK hP 0 rfl 2 (by decide) fl_R_failed rfl rfl d_R_passIfThere_1 ?_
    refine lv_if_ne (tgt := 22) hx hb d_R_passIfThere_4 (by decide) (fun q => absurd (by decide) q) (fun _ => ?_)
    refine lv_aload_n hx hb d_R_passIfThere_7 rfl (lv_at hl 0 rfl) ?_
    refine f_get S cls_R hK hP 0 rfl 0 (by decide) fl_R_pad rfl rfl d_R_passIfThere_8 ?_
    refine lv_aload_n hx hb d_R_passIfThere_11 rfl (lv_at hl 0 rfl) ?_
    refine f_get S cls_R hK hP 0 rfl 1 (by decide) fl_R_position rfl rfl d_R_passIfThere_12 ?_
    refine RO.callV S (c_P_characterAt l D ca  po tx P pl q (by omega) (by omega) (by omega)) k_R_82 hP hK [1, 2] rfl 1 (ci := 2) (fs := [.ref tx, .int (nI pl)]) rfl rfl rfl rfl hl.1 ⟨Nat.le_of_ble_eq_true rfl, Nat.le_of_ble_eq_true rfl⟩ ⟨Nat.zero_le _, Nat.zero_le _⟩ (Nat.le_of_ble_eq_true rfl) d_R_passIfThere_15 ?_
    refine lv_iload_n hx hb d_R_passIfThere_18 rfl (lv_at hl 1 rfl) ?_
    refine lv_icmp_eq (tgt := 24) hx hb d_R_passIfThere_19 (by decide) (fun c_19 => ?_) (fun c_19 => ?_)
    · refine lv_aload_n hx hb d_R_passIfThere_24 rfl (lv_at hl 0 rfl) ?_
      refine lv_dup hx hb d_R_passIfThere_25 rfl ?_
      refine f_get S cls_R hK hP 0 rfl 1 (by decide) fl_R_position rfl rfl d_R_passIfThere_26 ?_
      refine lv_iconst (v := 1) hx hb d_R_passIfThere_29 (by decide) ?_
      refine lv_iadd hx hb d_R_passIfThere_30 ?_
      refine lv_tope (z := nI (q + 1)) (nI_add q 1) ?_
      refine f_put S cls_R hK hP hD hS 0 rfl 1 (by decide) fl_R_position rfl rfl (rfl) (rfl) (Nat.le_of_ble_eq_true rfl) d_R_passIfThere_31 (fun H locs hP hD hS => ?_)
      have hP : va_P D classes [(ro, .inr (3, [.ref po, .int (nI (q + 1)), .int (b2 false), .int ki, .int fi, .int nu, .int su, .int bw])), (po, .inr (2, [.ref tx, .int (nI pl)])), (tx, .inl (ca 2, 80, .inl P))] H := hP
      have hD : va_D A [(ro, .inr (3, [.ref po, .int (nI (q + 1)), .int (b2 false), .int ki, .int fi, .int nu, .int su, .int bw])), (po, .inr (2, [.ref tx, .int (nI pl)])), (tx, .inl (ca 2, 80, .inl P))] := hD
      refine lv_iconst (v := 1) hx hb d_R_passIfThere_34 (by decide) ?_
      exact hret _ _ _ _ _ _ d_R_passIfThere_35 rfl (by first | (simp only [ptq, ptb, Bool.false_eq_true, c_19, ↓reduceIte]; done) | (simp only [ptq, ptb, Bool.false_eq_true, c_19, ↓reduceIte]; rfl) | rfl) (by first | (simp only [ptq, ptb, Bool.false_eq_true, c_19, ↓reduceIte]; done) | (simp only [ptq, ptb, Bool.false_eq_true, c_19, ↓reduceIte]; rfl) | rfl) hP hD hS
    · refine lv_iconst (v := 0) hx hb d_R_passIfThere_22 (by decide) ?_
      exact hret _ _ _ _ _ _ d_R_passIfThere_23 rfl (by first | (simp only [ptq, ptb, Bool.false_eq_true, c_19, ↓reduceIte]; done) | (simp only [ptq, ptb, Bool.false_eq_true, c_19, ↓reduceIte]; rfl) | rfl) (by first | (simp only [ptq, ptb, Bool.false_eq_true, c_19, ↓reduceIte]; done) | (simp only [ptq, ptb, Bool.false_eq_true, c_19, ↓reduceIte]; rfl) | rfl) hP hD hS
  · refine lv_aload_n hx hb d_R_passIfThere_0 rfl (lv_at hl 0 rfl) ?_
    refine f_get S cls_R hK hP 0 rfl 2 (by decide) fl_R_failed rfl rfl d_R_passIfThere_1 ?_
    refine lv_if_ne (tgt := 22) hx hb d_R_passIfThere_4 (by decide) (fun _ => ?_) (fun q => absurd q (by decide))
    refine lv_iconst (v := 0) hx hb d_R_passIfThere_22 (by decide) ?_
    exact hret _ _ _ _ _ _ d_R_passIfThere_23 rfl (by first | (simp only [ptq, ptb, Bool.false_eq_true, ↓reduceIte]; done) | (simp only [ptq, ptb, Bool.false_eq_true, ↓reduceIte]; rfl) | rfl) (by first | (simp only [ptq, ptb, Bool.false_eq_true, ↓reduceIte]; done) | (simp only [ptq, ptb, Bool.false_eq_true, ↓reduceIte]; rfl) | rfl) hP hD hS
set_option maxHeartbeats 4000000 in
set_option maxRecDepth 100000 in
theorem c_R_pass (l : Launch) (D : va_G) (ca : Nat → ClassId) (ro po tx : Nat) (P : Nat → Int32) (pl q : Nat) (wb : Bool) (ki fi nu su bw : Int32) (cc : Int32) (hpl : pl ≤ 80) (hq : q ≤ pl) (hCH : CH P pl) : MV l y_R_pass b_R_pass 2 2 42 D ca [.ref ro, .int cc] [(ro, .inr (3, [.ref po, .int (nI q), .int (b2 wb), .int ki, .int fi, .int nu, .int su, .int bw])), (po, .inr (2, [.ref tx, .int (nI pl)])), (tx, .inl (ca 2, 80, .inl P))] [(ro, .inr (3, [.ref po, .int (nI ((sg P pl cc cc (q, wb)).1)), .int (b2 (sg P pl cc cc (q, wb)).2), .int ki, .int fi, .int nu, .int su, .int bw])), (po, .inr (2, [.ref tx, .int (nI pl)])), (tx, .inl (ca 2, 80, .inl P))] := by
  refine MV.mk rfl (Nat.le_of_ble_eq_true rfl) ?_
  intro p e s m args below meth c Q A S hA hP hD hK
  obtain ⟨hx, hb, hml, hown, hts⟩ := id S
  intro hret ls hl0 hS
  have hl : lv_has ls 2 [(0, .ref ro), (1, .int cc)] := hl0
  refine lv_aload_n hx hb d_R_pass_0 rfl (lv_at hl 0 rfl) ?_
  refine lv_iload_n hx hb d_R_pass_1 rfl (lv_at hl 1 rfl) ?_
  refine MI.callV (wr := []) S (c_R_passIfThere l D ca  ro po tx P pl q wb ki fi nu su bw cc (by omega) (by omega) (by omega)) k_R_92 hP hD hS hA hK [0, 1, 2] [] rfl rfl (by decide) (by decide) (by decide) 0 (ci := 3) (fs := [.ref po, .int (nI q), .int (b2 wb), .int ki, .int fi, .int nu, .int su, .int bw]) rfl rfl rfl rfl hl.1 ⟨Nat.le_of_ble_eq_true rfl, Nat.le_of_ble_eq_true rfl⟩ ⟨Nat.zero_le _, Nat.zero_le _⟩ (Nat.le_of_ble_eq_true rfl) d_R_pass_2 (fun H locs hP hD hS => ?_)
  have hP : va_P D classes [(ro, .inr (3, [.ref po, .int (nI (ptq P pl cc (q, wb))), .int (b2 wb), .int ki, .int fi, .int nu, .int su, .int bw])), (po, .inr (2, [.ref tx, .int (nI pl)])), (tx, .inl (ca 2, 80, .inl P))] H := hP
  have hD : va_D A [(ro, .inr (3, [.ref po, .int (nI (ptq P pl cc (q, wb))), .int (b2 wb), .int ki, .int fi, .int nu, .int su, .int bw])), (po, .inr (2, [.ref tx, .int (nI pl)])), (tx, .inl (ca 2, 80, .inl P))] := hD
  refine lv_if_ne (tgt := 13) hx hb d_R_pass_5 (by decide) (fun c_5 => ?_) (fun c_5 => ?_)
  · have e_5 := b2_n c_5
    have hs := sg_pt e_5
    have hq2 : ptq P pl cc (q, wb) = q + 1 := if_pos e_5
    exact hret _ _ _ _ _ d_R_pass_13 (by rw [hs, hq2]; first | done | rfl) hP hD hS
  · have e_5 := b2_z c_5
    have hs := sg_pf e_5
    have hq2 : ptq P pl cc (q, wb) = q := if_neg (by rw [e_5]; decide)
    refine lv_aload_n hx hb d_R_pass_8 rfl (lv_at hl 0 rfl) ?_
    refine lv_iconst (v := 1) hx hb d_R_pass_9 (by decide) ?_
    refine f_put S cls_R hK hP hD hS 0 rfl 2 (by decide) fl_R_failed rfl rfl (rfl) (rfl) (Nat.le_of_ble_eq_true rfl) d_R_pass_10 (fun H locs hP hD hS => ?_)
    have hP : va_P D classes [(ro, .inr (3, [.ref po, .int (nI (ptq P pl cc (q, wb))), .int 1, .int ki, .int fi, .int nu, .int su, .int bw])), (po, .inr (2, [.ref tx, .int (nI pl)])), (tx, .inl (ca 2, 80, .inl P))] H := hP
    have hD : va_D A [(ro, .inr (3, [.ref po, .int (nI (ptq P pl cc (q, wb))), .int 1, .int ki, .int fi, .int nu, .int su, .int bw])), (po, .inr (2, [.ref tx, .int (nI pl)])), (tx, .inl (ca 2, 80, .inl P))] := hD
    exact hret _ _ _ _ _ d_R_pass_13 (by rw [hs, hq2]; first | done | rfl) hP hD hS
set_option maxHeartbeats 4000000 in
set_option maxRecDepth 100000 in
theorem c_R_readFile (l : Launch) (D : va_G) (ca : Nat → ClassId) (ro po tx : Nat) (P : Nat → Int32) (pl q : Nat) (wb : Bool) (ki fi nu su bw : Int32) (cc : Int32) (hpl : pl ≤ 80) (hq : q ≤ pl) (hCH : CH P pl) : MV l y_R_readFile b_R_readFile 2 3 63 D ca [.ref ro, .int cc] [(ro, .inr (3, [.ref po, .int (nI q), .int (b2 wb), .int ki, .int fi, .int nu, .int su, .int bw])), (po, .inr (2, [.ref tx, .int (nI pl)])), (tx, .inl (ca 2, 80, .inl P))] [(ro, .inr (3, [.ref po, .int (nI ((sg P pl cc cc (sg P pl 48 49 (q, wb))).1)), .int (b2 (sg P pl cc cc (sg P pl 48 49 (q, wb))).2), .int ki, .int (fl P pl (q, wb)), .int nu, .int su, .int bw])), (po, .inr (2, [.ref tx, .int (nI pl)])), (tx, .inl (ca 2, 80, .inl P))] := by
  refine MV.mk rfl (Nat.le_of_ble_eq_true rfl) ?_
  intro p e s m args below meth c Q A S hA hP hD hK
  obtain ⟨hx, hb, hml, hown, hts⟩ := id S
  intro hret ls hl0 hS
  have hl : lv_has ls 2 [(0, .ref ro), (1, .int cc)] := hl0
  refine lv_aload_n hx hb d_R_readFile_0 rfl (lv_at hl 0 rfl) ?_
  refine lv_bipush (v := 49) hx hb d_R_readFile_1 (by decide) ?_
  refine MI.callV (wr := []) S (c_R_passIfThere l D ca  ro po tx P pl q wb ki fi nu su bw 49 (by omega) (by omega) (by omega)) k_R_92 hP hD hS hA hK [0, 1, 2] [] rfl rfl (by decide) (by decide) (by decide) 0 (ci := 3) (fs := [.ref po, .int (nI q), .int (b2 wb), .int ki, .int fi, .int nu, .int su, .int bw]) rfl rfl rfl rfl hl.1 ⟨Nat.le_of_ble_eq_true rfl, Nat.le_of_ble_eq_true rfl⟩ ⟨Nat.zero_le _, Nat.zero_le _⟩ (Nat.le_of_ble_eq_true rfl) d_R_readFile_3 (fun H locs hP hD hS => ?_)
  have hP : va_P D classes [(ro, .inr (3, [.ref po, .int (nI (ptq P pl 49 (q, wb))), .int (b2 wb), .int ki, .int fi, .int nu, .int su, .int bw])), (po, .inr (2, [.ref tx, .int (nI pl)])), (tx, .inl (ca 2, 80, .inl P))] H := hP
  have hD : va_D A [(ro, .inr (3, [.ref po, .int (nI (ptq P pl 49 (q, wb))), .int (b2 wb), .int ki, .int fi, .int nu, .int su, .int bw])), (po, .inr (2, [.ref tx, .int (nI pl)])), (tx, .inl (ca 2, 80, .inl P))] := hD
  refine lv_if_eq (tgt := 17) hx hb d_R_readFile_6 (by decide) (fun c_6 => ?_) (fun c_6 => ?_)
  · have e_6 := b2_z c_6
    have hq2 : ptq P pl 49 (q, wb) = q := if_neg (by rw [e_6]; decide)
    rw [hq2] at hP hD
    have hs := sg_r0 e_6
    have hb1 := (sg_bd (P := P) (n := pl) (a := 48) (b := 49) (q := (q, wb)) (by decide) hq).2
    refine lv_aload_n hx hb d_R_readFile_17 rfl (lv_at hl 0 rfl) ?_
    refine lv_bipush (v := 48) hx hb d_R_readFile_18 (by decide) ?_
    refine MV.callV (wr := []) S (c_R_pass l D ca  ro po tx P pl q wb ki fi nu su bw 48 (by omega) (hq) (by omega)) k_R_39 hP hD hS hA hK [0, 1, 2] [] rfl rfl (by decide) (by decide) (by decide) 0 (ci := 3) (fs := [.ref po, .int (nI (q)), .int (b2 wb), .int ki, .int fi, .int nu, .int su, .int bw]) rfl rfl rfl rfl hl.1 ⟨Nat.le_of_ble_eq_true rfl, Nat.le_of_ble_eq_true rfl⟩ ⟨Nat.zero_le _, Nat.zero_le _⟩ (Nat.le_of_ble_eq_true rfl) d_R_readFile_20 (fun H locs hP hD hS => ?_)
    have hP : va_P D classes [(ro, .inr (3, [.ref po, .int (nI ((sg P pl 48 48 (q, wb)).1)), .int (b2 (sg P pl 48 48 (q, wb)).2), .int ki, .int fi, .int nu, .int su, .int bw])), (po, .inr (2, [.ref tx, .int (nI pl)])), (tx, .inl (ca 2, 80, .inl P))] H := hP
    have hD : va_D A [(ro, .inr (3, [.ref po, .int (nI ((sg P pl 48 48 (q, wb)).1)), .int (b2 (sg P pl 48 48 (q, wb)).2), .int ki, .int fi, .int nu, .int su, .int bw])), (po, .inr (2, [.ref tx, .int (nI pl)])), (tx, .inl (ca 2, 80, .inl P))] := hD
    rw [hs] at hP hD
    refine lv_aload_n hx hb d_R_readFile_23 rfl (lv_at hl 0 rfl) ?_
    refine lv_iconst (v := 0) hx hb d_R_readFile_24 (by decide) ?_
    refine f_put S cls_R hK hP hD hS 0 rfl 4 (by decide) fl_R_file rfl rfl (rfl) (rfl) (Nat.le_of_ble_eq_true rfl) d_R_readFile_25 (fun H locs hP hD hS => ?_)
    have hP : va_P D classes [(ro, .inr (3, [.ref po, .int (nI ((sg P pl 48 49 (q, wb)).1)), .int (b2 (sg P pl 48 49 (q, wb)).2), .int ki, .int 0, .int nu, .int su, .int bw])), (po, .inr (2, [.ref tx, .int (nI pl)])), (tx, .inl (ca 2, 80, .inl P))] H := hP
    have hD : va_D A [(ro, .inr (3, [.ref po, .int (nI ((sg P pl 48 49 (q, wb)).1)), .int (b2 (sg P pl 48 49 (q, wb)).2), .int ki, .int 0, .int nu, .int su, .int bw])), (po, .inr (2, [.ref tx, .int (nI pl)])), (tx, .inl (ca 2, 80, .inl P))] := hD
    refine lv_aload_n hx hb d_R_readFile_28 rfl (lv_at hl 0 rfl) ?_
    refine lv_iload_n hx hb d_R_readFile_29 rfl (lv_at hl 1 rfl) ?_
    refine MV.callV (wr := []) S (c_R_pass l D ca  ro po tx P pl ((sg P pl 48 49 (q, wb)).1) ((sg P pl 48 49 (q, wb)).2) ki 0 nu su bw cc (by omega) (hb1) (by omega)) k_R_39 hP hD hS hA hK [0, 1, 2] [] rfl rfl (by decide) (by decide) (by decide) 0 (ci := 3) (fs := [.ref po, .int (nI ((sg P pl 48 49 (q, wb)).1)), .int (b2 (sg P pl 48 49 (q, wb)).2), .int ki, .int 0, .int nu, .int su, .int bw]) rfl rfl rfl rfl hl.1 ⟨Nat.le_of_ble_eq_true rfl, Nat.le_of_ble_eq_true rfl⟩ ⟨Nat.zero_le _, Nat.zero_le _⟩ (Nat.le_of_ble_eq_true rfl) d_R_readFile_30 (fun H locs hP hD hS => ?_)
    have hP : va_P D classes [(ro, .inr (3, [.ref po, .int (nI ((sg P pl cc cc (((sg P pl 48 49 (q, wb)).1), ((sg P pl 48 49 (q, wb)).2))).1)), .int (b2 (sg P pl cc cc (((sg P pl 48 49 (q, wb)).1), ((sg P pl 48 49 (q, wb)).2))).2), .int ki, .int 0, .int nu, .int su, .int bw])), (po, .inr (2, [.ref tx, .int (nI pl)])), (tx, .inl (ca 2, 80, .inl P))] H := hP
    have hD : va_D A [(ro, .inr (3, [.ref po, .int (nI ((sg P pl cc cc (((sg P pl 48 49 (q, wb)).1), ((sg P pl 48 49 (q, wb)).2))).1)), .int (b2 (sg P pl cc cc (((sg P pl 48 49 (q, wb)).1), ((sg P pl 48 49 (q, wb)).2))).2), .int ki, .int 0, .int nu, .int su, .int bw])), (po, .inr (2, [.ref tx, .int (nI pl)])), (tx, .inl (ca 2, 80, .inl P))] := hD
    exact hret _ _ _ _ _ d_R_readFile_33 (by simp only [fl, e_6, Bool.false_eq_true, ↓reduceIte]) hP hD hS
  · have e_6 := b2_n c_6
    have hs := sg_r1 e_6
    have hq2 : ptq P pl 49 (q, wb) = q + 1 := if_pos e_6
    rw [hq2] at hP hD
    have hb1 := ptb_lt e_6 (by decide)
    refine lv_aload_n hx hb d_R_readFile_9 rfl (lv_at hl 0 rfl) ?_
    refine lv_iconst (v := 1) hx hb d_R_readFile_10 (by decide) ?_
    refine f_put S cls_R hK hP hD hS 0 rfl 4 (by decide) fl_R_file rfl rfl (rfl) (rfl) (Nat.le_of_ble_eq_true rfl) d_R_readFile_11 (fun H locs hP hD hS => ?_)
    have hP : va_P D classes [(ro, .inr (3, [.ref po, .int (nI ((q + 1))), .int (b2 wb), .int ki, .int 1, .int nu, .int su, .int bw])), (po, .inr (2, [.ref tx, .int (nI pl)])), (tx, .inl (ca 2, 80, .inl P))] H := hP
    have hD : va_D A [(ro, .inr (3, [.ref po, .int (nI ((q + 1))), .int (b2 wb), .int ki, .int 1, .int nu, .int su, .int bw])), (po, .inr (2, [.ref tx, .int (nI pl)])), (tx, .inl (ca 2, 80, .inl P))] := hD
    refine lv_goto (tgt := 28) hx hb d_R_readFile_14 (by decide) ?_
    have hs2 : (q + 1, wb) = (sg P pl 48 49 (q, wb)) := hs.symm
    have hn1 : q + 1 = (sg P pl 48 49 (q, wb)).1 := congrArg Prod.fst hs2
    have hn2 : wb = (sg P pl 48 49 (q, wb)).2 := congrArg Prod.snd hs2
    have hP : va_P D classes [(ro, .inr (3, [.ref po, .int (nI ((sg P pl 48 49 (q, wb)).1)), .int (b2 (sg P pl 48 49 (q, wb)).2), .int ki, .int 1, .int nu, .int su, .int bw])), (po, .inr (2, [.ref tx, .int (nI pl)])), (tx, .inl (ca 2, 80, .inl P))] H := by rw [← hn1, ← hn2]; exact hP
    have hD : va_D A [(ro, .inr (3, [.ref po, .int (nI ((sg P pl 48 49 (q, wb)).1)), .int (b2 (sg P pl 48 49 (q, wb)).2), .int ki, .int 1, .int nu, .int su, .int bw])), (po, .inr (2, [.ref tx, .int (nI pl)])), (tx, .inl (ca 2, 80, .inl P))] := by rw [← hn1, ← hn2]; exact hD
    have hb1 : (sg P pl 48 49 (q, wb)).1 ≤ pl := by rw [← hn1]; exact hb1
    refine lv_aload_n hx hb d_R_readFile_28 rfl (lv_at hl 0 rfl) ?_
    refine lv_iload_n hx hb d_R_readFile_29 rfl (lv_at hl 1 rfl) ?_
    refine MV.callV (wr := []) S (c_R_pass l D ca  ro po tx P pl ((sg P pl 48 49 (q, wb)).1) ((sg P pl 48 49 (q, wb)).2) ki 1 nu su bw cc (by omega) (hb1) (by omega)) k_R_39 hP hD hS hA hK [0, 1, 2] [] rfl rfl (by decide) (by decide) (by decide) 0 (ci := 3) (fs := [.ref po, .int (nI ((sg P pl 48 49 (q, wb)).1)), .int (b2 (sg P pl 48 49 (q, wb)).2), .int ki, .int 1, .int nu, .int su, .int bw]) rfl rfl rfl rfl hl.1 ⟨Nat.le_of_ble_eq_true rfl, Nat.le_of_ble_eq_true rfl⟩ ⟨Nat.zero_le _, Nat.zero_le _⟩ (Nat.le_of_ble_eq_true rfl) d_R_readFile_30 (fun H locs hP hD hS => ?_)
    have hP : va_P D classes [(ro, .inr (3, [.ref po, .int (nI ((sg P pl cc cc (((sg P pl 48 49 (q, wb)).1), ((sg P pl 48 49 (q, wb)).2))).1)), .int (b2 (sg P pl cc cc (((sg P pl 48 49 (q, wb)).1), ((sg P pl 48 49 (q, wb)).2))).2), .int ki, .int 1, .int nu, .int su, .int bw])), (po, .inr (2, [.ref tx, .int (nI pl)])), (tx, .inl (ca 2, 80, .inl P))] H := hP
    have hD : va_D A [(ro, .inr (3, [.ref po, .int (nI ((sg P pl cc cc (((sg P pl 48 49 (q, wb)).1), ((sg P pl 48 49 (q, wb)).2))).1)), .int (b2 (sg P pl cc cc (((sg P pl 48 49 (q, wb)).1), ((sg P pl 48 49 (q, wb)).2))).2), .int ki, .int 1, .int nu, .int su, .int bw])), (po, .inr (2, [.ref tx, .int (nI pl)])), (tx, .inl (ca 2, 80, .inl P))] := hD
    exact hret _ _ _ _ _ d_R_readFile_33 (by simp only [fl, e_6, Bool.false_eq_true, ↓reduceIte]) hP hD hS
set_option maxHeartbeats 4000000 in
set_option maxRecDepth 100000 in
theorem c_R_readNumber (l : Launch) (D : va_G) (ca : Nat → ClassId) (ro po tx : Nat) (P : Nat → Int32) (pl q : Nat) (wb : Bool) (ki fi nu su bw : Int32) (hpl : pl ≤ 80) (hq : q ≤ pl) (hCH : CH P pl) : MI l y_R_readNumber b_R_readNumber 3 (some .int) 2 42 D ca [.ref ro] [(ro, .inr (3, [.ref po, .int (nI q), .int (b2 wb), .int ki, .int fi, .int nu, .int su, .int bw])), (po, .inr (2, [.ref tx, .int (nI pl)])), (tx, .inl (ca 2, 80, .inl P))] ((cn P pl (q, wb)).1) [(ro, .inr (3, [.ref po, .int (nI ((cn P pl (q, wb)).2.1)), .int (b2 (cn P pl (q, wb)).2.2), .int ki, .int fi, .int nu, .int su, .int bw])), (po, .inr (2, [.ref tx, .int (nI pl)])), (tx, .inl (ca 2, 80, .inl P))] := by
  refine MI.mk (ty := .int) rfl rfl (Nat.le_of_ble_eq_true rfl) ?_
  intro p e s m args below meth c Q A S hA hP hD hK
  obtain ⟨hx, hb, hml, hown, hts⟩ := id S
  intro hret ls hl0 hS
  have hl : lv_has ls 3 [(0, .ref ro)] := hl0
  refine lv_aload_n hx hb d_R_readNumber_0 rfl (lv_at hl 0 rfl) ?_
  refine RO.callV S (c_R_isDigitNext l D ca  ro po tx P pl q wb ki fi nu su bw (by omega) (by omega) (by omega)) k_R_96 hP hK [0, 1, 2] rfl 0 (ci := 3) (fs := [.ref po, .int (nI q), .int (b2 wb), .int ki, .int fi, .int nu, .int su, .int bw]) rfl rfl rfl rfl hl.1 ⟨Nat.le_of_ble_eq_true rfl, Nat.le_of_ble_eq_true rfl⟩ ⟨Nat.zero_le _, Nat.zero_le _⟩ (Nat.le_of_ble_eq_true rfl) d_R_readNumber_1 ?_
  refine lv_if_ne (tgt := 12) hx hb d_R_readNumber_4 (by decide) (fun c_4 => ?_) (fun c_4 => ?_)
  · have e_4 : dgn P pl (q, wb) = true := b2_n c_4
    obtain rfl : wb = false := (dgn_lt e_4).2
    refine lv_aload_n hx hb d_R_readNumber_12 rfl (lv_at hl 0 rfl) ?_
    refine lv_bipush (v := 48) hx hb d_R_readNumber_13 (by decide) ?_
    refine MI.callV (wr := []) S (c_R_passIfThere l D ca  ro po tx P pl q false ki fi nu su bw 48 (by omega) (by omega) (by omega)) k_R_92 hP hD hS hA hK [0, 1, 2] [] rfl rfl (by decide) (by decide) (by decide) 0 (ci := 3) (fs := [.ref po, .int (nI q), .int (b2 false), .int ki, .int fi, .int nu, .int su, .int bw]) rfl rfl rfl rfl hl.1 ⟨Nat.le_of_ble_eq_true rfl, Nat.le_of_ble_eq_true rfl⟩ ⟨Nat.zero_le _, Nat.zero_le _⟩ (Nat.le_of_ble_eq_true rfl) d_R_readNumber_15 (fun H locs hP hD hS => ?_)
    have hP : va_P D classes [(ro, .inr (3, [.ref po, .int (nI (ptq P pl 48 (q, false))), .int (b2 false), .int ki, .int fi, .int nu, .int su, .int bw])), (po, .inr (2, [.ref tx, .int (nI pl)])), (tx, .inl (ca 2, 80, .inl P))] H := hP
    have hD : va_D A [(ro, .inr (3, [.ref po, .int (nI (ptq P pl 48 (q, false))), .int (b2 false), .int ki, .int fi, .int nu, .int su, .int bw])), (po, .inr (2, [.ref tx, .int (nI pl)])), (tx, .inl (ca 2, 80, .inl P))] := hD
    refine lv_if_eq (tgt := 23) hx hb d_R_readNumber_18 (by decide) (fun c_18 => ?_) (fun c_18 => ?_)
    · have e_18 : ptb P pl 48 (q, false) = false := b2_z c_18
      have hq2 : ptq P pl 48 (q, false) = q := if_neg (by rw [e_18]; decide)
      rw [hq2] at hP hD
      refine lv_iconst (v := 0) hx hb d_R_readNumber_23 (by decide) ?_
      refine lv_istore_n (lv' := [(1, .int 0), (0, .ref ro)]) hx hb d_R_readNumber_24 rfl hl (by decide) rfl (fun ls hl => ?_)
      refine lv_iconst (v := 0) hx hb d_R_readNumber_25 (by decide) ?_
      refine lv_istore_n (lv' := [(2, .int 0), (1, .int 0), (0, .ref ro)]) hx hb d_R_readNumber_26 rfl hl (by decide) rfl (fun ls hl => ?_)
      suffices lp : ∀ (r k : Nat) (v : Int32) (q2 : Nat), 4 - k < r → k ≤ 4 → q2 ≤ pl → rl P pl 4 0 q = rl P pl (4 - k) v q2 → ∀ (H : Heap) (locs : List Loc), va_P D classes [(ro, .inr (3, [.ref po, .int (nI q2), .int (b2 false), .int ki, .int fi, .int nu, .int su, .int bw])), (po, .inr (2, [.ref tx, .int (nI pl)])), (tx, .inl (ca 2, 80, .inl P))] H → va_D A [(ro, .inr (3, [.ref po, .int (nI q2), .int (b2 false), .int ki, .int fi, .int nu, .int su, .int bw])), (po, .inr (2, [.ref tx, .int (nI pl)])), (tx, .inl (ca 2, 80, .inl P))] → va_S A s.heap H locs → ∀ ls : Array Slot, lv_has ls 3 [(2, .int (nI k)), (1, .int v), (0, .ref ro)] → W p l e (rm 2 42 0 0) s m args below meth c H locs 0 0 Q (F0 m 27 ls []) from lp 5 0 0 q (by omega) (by omega) hq rfl _ _ hP hD hS _ (lv_sub hl [0, 1, 2] rfl)
      intro r
      induction r with
      | zero => intro k v q2 hk; omega
      | succ r ih =>
        intro k v q2 hk hkn hq2 hE H locs hP hD hS ls hl
        refine lv_iload_n hx hb d_R_readNumber_27 rfl (lv_at hl 0 rfl) ?_
        refine lv_iconst (v := 4) hx hb d_R_readNumber_28 (by decide) ?_
        refine lv_icmp_ge (tgt := 75) hx hb d_R_readNumber_29 (by decide) (fun c_29 => ?_) (fun c_29 => ?_)
        · have e_16 : 4 ≤ k := le_of_nI (by omega) (by omega) (show nI 4 ≤ nI k from c_29)
          obtain rfl : k = 4 := by omega
          have hR : rl P pl 4 0 q = (v, q2) := hE
          refine lv_iload_n hx hb d_R_readNumber_75 rfl (lv_at hl 1 rfl) ?_
          exact hret _ _ _ _ _ _ d_R_readNumber_76 rfl (by simp only [cn, e_4, e_18, Bool.false_eq_true, ↓reduceIte]; rw [hR]) (by simp only [cn, e_4, e_18, Bool.false_eq_true, ↓reduceIte]; rw [hR]) hP hD hS
        · have e_16 : k < 4 := nle_lt (by omega) (by omega) (show ¬ nI 4 ≤ nI k from c_29)
          rw [show 4 - k = (4 - (k + 1)) + 1 by omega] at hE
          refine lv_aload_n hx hb d_R_readNumber_32 rfl (lv_at hl 2 rfl) ?_
          refine RO.callV S (c_R_isDigitNext l D ca  ro po tx P pl q2 false ki fi nu su bw (by omega) (hq2) (by omega)) k_R_96 hP hK [0, 1, 2] rfl 0 (ci := 3) (fs := [.ref po, .int (nI q2), .int (b2 false), .int ki, .int fi, .int nu, .int su, .int bw]) rfl rfl rfl rfl hl.1 ⟨Nat.le_of_ble_eq_true rfl, Nat.le_of_ble_eq_true rfl⟩ ⟨Nat.zero_le _, Nat.zero_le _⟩ (Nat.le_of_ble_eq_true rfl) d_R_readNumber_33 ?_
          refine lv_if_eq (tgt := 75) hx hb d_R_readNumber_36 (by decide) (fun c_36 => ?_) (fun c_36 => ?_)
          · have hR : rl P pl 4 0 q = (v, q2) := by rw [hE]; simp only [rl, b2_z (b := dgn P pl (q2, false)) c_36, Bool.false_eq_true, ↓reduceIte]
            refine lv_iload_n hx hb d_R_readNumber_75 rfl (lv_at hl 1 rfl) ?_
            exact hret _ _ _ _ _ _ d_R_readNumber_76 rfl (by simp only [cn, e_4, e_18, Bool.false_eq_true, ↓reduceIte]; rw [hR]) (by simp only [cn, e_4, e_18, Bool.false_eq_true, ↓reduceIte]; rw [hR]) hP hD hS
          · have e_36 : dgn P pl (q2, false) = true := b2_n c_36
            have hlt := (dgn_lt e_36).1
            refine lv_bipush (v := 10) hx hb d_R_readNumber_39 (by decide) ?_
            refine lv_iload_n hx hb d_R_readNumber_41 rfl (lv_at hl 1 rfl) ?_
            refine lv_imul hx hb d_R_readNumber_42 ?_
            refine lv_aload_n hx hb d_R_readNumber_43 rfl (lv_at hl 2 rfl) ?_
            refine f_get S cls_R hK hP 0 rfl 0 (by decide) fl_R_pad rfl rfl d_R_readNumber_44 ?_
            refine lv_aload_n hx hb d_R_readNumber_47 rfl (lv_at hl 2 rfl) ?_
            refine f_get S cls_R hK hP 0 rfl 1 (by decide) fl_R_position rfl rfl d_R_readNumber_48 ?_
            refine RO.callV S (c_P_characterAt l D ca  po tx P pl q2 (by omega) (hq2) (by omega)) k_R_82 hP hK [1, 2] rfl 1 (ci := 2) (fs := [.ref tx, .int (nI pl)]) rfl rfl rfl rfl hl.1 ⟨Nat.le_of_ble_eq_true rfl, Nat.le_of_ble_eq_true rfl⟩ ⟨Nat.zero_le _, Nat.zero_le _⟩ (Nat.le_of_ble_eq_true rfl) d_R_readNumber_51 ?_
            refine lv_bipush (v := 48) hx hb d_R_readNumber_54 (by decide) ?_
            refine lv_isub hx hb d_R_readNumber_56 ?_
            refine lv_iadd hx hb d_R_readNumber_57 ?_
            refine lv_istore_n (lv' := [(1, .int ((10 * v) + ((chr P pl q2) - 48))), (2, .int (nI k)), (0, .ref ro)]) hx hb d_R_readNumber_58 rfl hl (by decide) rfl (fun ls hl => ?_)
            refine lv_aload_n hx hb d_R_readNumber_59 rfl (lv_at hl 2 rfl) ?_
            refine lv_dup hx hb d_R_readNumber_60 rfl ?_
            refine f_get S cls_R hK hP 0 rfl 1 (by decide) fl_R_position rfl rfl d_R_readNumber_61 ?_
            refine lv_iconst (v := 1) hx hb d_R_readNumber_64 (by decide) ?_
            refine lv_iadd hx hb d_R_readNumber_65 ?_
            refine lv_tope (z := nI (q2 + 1)) (nI_add q2 1) ?_
            refine f_put S cls_R hK hP hD hS 0 rfl 1 (by decide) fl_R_position rfl rfl (rfl) (rfl) (Nat.le_of_ble_eq_true rfl) d_R_readNumber_66 (fun H locs hP hD hS => ?_)
            have hP : va_P D classes [(ro, .inr (3, [.ref po, .int (nI (q2 + 1)), .int (b2 false), .int ki, .int fi, .int nu, .int su, .int bw])), (po, .inr (2, [.ref tx, .int (nI pl)])), (tx, .inl (ca 2, 80, .inl P))] H := hP
            have hD : va_D A [(ro, .inr (3, [.ref po, .int (nI (q2 + 1)), .int (b2 false), .int ki, .int fi, .int nu, .int su, .int bw])), (po, .inr (2, [.ref tx, .int (nI pl)])), (tx, .inl (ca 2, 80, .inl P))] := hD
            refine lv_iinc (v := nI (k + 1)) (lv' := [(2, .int (nI (k + 1))), (1, .int ((10 * v) + ((chr P pl q2) - 48))), (0, .ref ro)]) hx hb d_R_readNumber_69 hl (k := 1) rfl (nI_1 k) (by decide) rfl (fun ls hl => ?_)
            refine lv_goto (tgt := 27) hx hb d_R_readNumber_72 (by decide) ?_
            exact ih (k + 1) _ _ (by omega) (by omega) hlt (by rw [hE]; simp only [rl, e_36, ↓reduceIte]) _ _ hP hD hS _ (lv_sub hl [0, 1, 2] rfl)
    · have e_18 : ptb P pl 48 (q, false) = true := b2_n c_18
      have hq2 : ptq P pl 48 (q, false) = q + 1 := if_pos e_18
      refine lv_iconst (v := 0) hx hb d_R_readNumber_21 (by decide) ?_
      exact hret _ _ _ _ _ _ d_R_readNumber_22 rfl (by simp only [cn, e_4, e_18, ↓reduceIte]) (by simp only [cn, e_4, e_18, hq2, ↓reduceIte]) hP hD hS
  · have e_4 : dgn P pl (q, wb) = false := b2_z c_4
    refine lv_aload_n hx hb d_R_readNumber_7 rfl (lv_at hl 0 rfl) ?_
    refine lv_iconst (v := 1) hx hb d_R_readNumber_8 (by decide) ?_
    refine f_put S cls_R hK hP hD hS 0 rfl 2 (by decide) fl_R_failed rfl rfl (rfl) (rfl) (Nat.le_of_ble_eq_true rfl) d_R_readNumber_9 (fun H locs hP hD hS => ?_)
    have hP : va_P D classes [(ro, .inr (3, [.ref po, .int (nI q), .int 1, .int ki, .int fi, .int nu, .int su, .int bw])), (po, .inr (2, [.ref tx, .int (nI pl)])), (tx, .inl (ca 2, 80, .inl P))] H := hP
    have hD : va_D A [(ro, .inr (3, [.ref po, .int (nI q), .int 1, .int ki, .int fi, .int nu, .int su, .int bw])), (po, .inr (2, [.ref tx, .int (nI pl)])), (tx, .inl (ca 2, 80, .inl P))] := hD
    refine lv_aload_n hx hb d_R_readNumber_12 rfl (lv_at hl 0 rfl) ?_
    refine lv_bipush (v := 48) hx hb d_R_readNumber_13 (by decide) ?_
    refine MI.callV (wr := []) S (c_R_passIfThere l D ca  ro po tx P pl q true ki fi nu su bw 48 (by omega) (by omega) (by omega)) k_R_92 hP hD hS hA hK [0, 1, 2] [] rfl rfl (by decide) (by decide) (by decide) 0 (ci := 3) (fs := [.ref po, .int (nI q), .int 1, .int ki, .int fi, .int nu, .int su, .int bw]) rfl rfl rfl rfl hl.1 ⟨Nat.le_of_ble_eq_true rfl, Nat.le_of_ble_eq_true rfl⟩ ⟨Nat.zero_le _, Nat.zero_le _⟩ (Nat.le_of_ble_eq_true rfl) d_R_readNumber_15 (fun H locs hP hD hS => ?_)
    have hP : va_P D classes [(ro, .inr (3, [.ref po, .int (nI (ptq P pl 48 (q, true))), .int (b2 true), .int ki, .int fi, .int nu, .int su, .int bw])), (po, .inr (2, [.ref tx, .int (nI pl)])), (tx, .inl (ca 2, 80, .inl P))] H := hP
    have hD : va_D A [(ro, .inr (3, [.ref po, .int (nI (ptq P pl 48 (q, true))), .int (b2 true), .int ki, .int fi, .int nu, .int su, .int bw])), (po, .inr (2, [.ref tx, .int (nI pl)])), (tx, .inl (ca 2, 80, .inl P))] := hD
    refine lv_if_eq (tgt := 23) hx hb d_R_readNumber_18 (by decide) (fun _ => ?_) (fun q => absurd (rfl) q)
    refine lv_iconst (v := 0) hx hb d_R_readNumber_23 (by decide) ?_
    refine lv_istore_n (lv' := [(1, .int 0), (0, .ref ro)]) hx hb d_R_readNumber_24 rfl hl (by decide) rfl (fun ls hl => ?_)
    refine lv_iconst (v := 0) hx hb d_R_readNumber_25 (by decide) ?_
    refine lv_istore_n (lv' := [(2, .int 0), (1, .int 0), (0, .ref ro)]) hx hb d_R_readNumber_26 rfl hl (by decide) rfl (fun ls hl => ?_)
    refine lv_iload_n hx hb d_R_readNumber_27 rfl (lv_at hl 0 rfl) ?_
    refine lv_iconst (v := 4) hx hb d_R_readNumber_28 (by decide) ?_
    refine lv_icmp_ge (tgt := 75) hx hb d_R_readNumber_29 (by decide) (fun q => absurd q (by decide)) (fun _ => ?_)
    refine lv_aload_n hx hb d_R_readNumber_32 rfl (lv_at hl 2 rfl) ?_
    refine RO.callV S (c_R_isDigitNext l D ca  ro po tx P pl (ptq P pl 48 (q, true)) true ki fi nu su bw (by omega) (hq) (by omega)) k_R_96 hP hK [0, 1, 2] rfl 0 (ci := 3) (fs := [.ref po, .int (nI (ptq P pl 48 (q, true))), .int (b2 true), .int ki, .int fi, .int nu, .int su, .int bw]) rfl rfl rfl rfl hl.1 ⟨Nat.le_of_ble_eq_true rfl, Nat.le_of_ble_eq_true rfl⟩ ⟨Nat.zero_le _, Nat.zero_le _⟩ (Nat.le_of_ble_eq_true rfl) d_R_readNumber_33 ?_
    refine lv_if_eq (tgt := 75) hx hb d_R_readNumber_36 (by decide) (fun _ => ?_) (fun q => absurd (rfl) q)
    refine lv_iload_n hx hb d_R_readNumber_75 rfl (lv_at hl 1 rfl) ?_
    exact hret _ _ _ _ _ _ d_R_readNumber_76 rfl (by simp only [cn, e_4, Bool.false_eq_true, ↓reduceIte]) (by simp only [cn, e_4, ptq, ptb, Bool.false_eq_true, ↓reduceIte]; first | done | rfl) hP hD hS
