/-! What the Tape's private methods answer -/
def isf (x : Int32) : Int32 := if x < 0 then 0 else if 2 ≤ x then 0 else 1
def ibk (g : Nat → Int32) (x y : Int32) : Int32 := if isf x = 0 then 0 else if y < 0 then 0 else if nI (bn g x.toNatClampNeg) ≤ y then 0 else 1
def wl (g : Nat → Int32) (r : Nat) : Int32 := g (10 + 4 * r + 0) + 2 * g (10 + 4 * r + 2)
def ft (g : Nat → Int32) (f : Nat) : Nat → Int32
  | 0 => 0
  | n + 1 => ft g f n + wl g (f * 20 + n)
def tot (g : Nat → Int32) (k f : Nat) : Nat → Int32
  | 0 => 0
  | n + 1 => tot g k f n + g (10 + 4 * (f * 20 + n) + k)
def gp (g : Nat → Int32) : Int32 := g 0 - ft g 0 (bn g 0) - ft g 1 (bn g 1)
def en (g : Nat → Int32) (f : Nat) : Int32 := if f = 0 then ft g f (bn g f) else g 0 - ft g f (bn g f)
def lo (g : Nat → Int32) (f b : Nat) : Int32 := if f = 0 then ft g f b else g 0 - ft g f (b + 1)
def sr (g : Nat → Int32) (f b w : Nat) : Int32 := if f = w then lo g f b else lo g f b + wl g (f * 20 + b)
def ab (z : Int32) : Int32 := if 0 ≤ z then z else 0 - z
def tr (g : Nat → Int32) (f b w : Nat) : Int32 := ab (sr g f b w - g 3) + wl g (f * 20 + b)
def rem9 (z : Int32) : Int32 := z - z / 1000000000 * 1000000000
def tv (g : Nat → Int32) (x : Int32) : Nat → Int32 := upd (upd g 6 (rem9 (g 6 + ab (x - g 3)))) 3 x
def iig (g : Nat → Int32) (x y : Int32) : Int32 := if x < en g 0 then 0 else if en g 1 < y then 0 else 1
theorem isf_of {x : Int32} (h : ¬ isf x = 0) : ∃ f, f < 2 ∧ x = nI f := by
  unfold isf at h
  split at h
  · exact absurd rfl h
  · rename_i h1
    split at h
    · exact absurd rfl h
    · rename_i h2
      obtain ⟨j, hj, rfl⟩ := nI_of h1
      refine ⟨j, ?_, rfl⟩
      rcases Nat.lt_or_ge j 2 with q | q
      · exact q
      · exact absurd (nI_le (a := 2) q hj) h2
theorem isf_nI {f : Nat} (h : f < 2) : isf (nI f) = 1 := by
  rcases (show f = 0 ∨ f = 1 by omega) with rfl | rfl <;> decide
theorem isf_ne {f : Nat} (h : f < 2) : ¬ isf (nI f) = 0 := by rw [isf_nI h]; decide
theorem nI0 {f : Nat} (h : f < 2 ^ 31) (q : nI f = 0) : f = 0 := (nI_eq h (by decide)).mp q
theorem n0I {f : Nat} (q : ¬ nI f = 0) : ¬ f = 0 := fun h => q (by rw [h]; rfl)
theorem nle_lt {a b : Nat} (ha : a < 2 ^ 31) (hb : b < 2 ^ 31) (h : ¬ nI b ≤ nI a) : a < b := by
  rcases Nat.lt_or_ge a b with q | q
  · exact q
  · exact absurd ((nI_leI hb ha).mpr q) h
theorem le_of_nI {a b : Nat} (ha : a < 2 ^ 31) (hb : b < 2 ^ 31) (h : nI b ≤ nI a) : b ≤ a := (nI_leI hb ha).mp h
set_option maxHeartbeats 4000000 in
set_option maxRecDepth 100000 in
theorem c_T_isFile (l : Launch) (D : va_G) (ca : Nat → ClassId) (a0 : Nat) (x : Int32) : RO l y_T_isFile b_T_isFile 2 (some .boolean) 0 0 D ca [.ref a0, .int x] [] (isf x) := by
  refine RO.mk (ty := .boolean) rfl rfl (Nat.le_of_ble_eq_true rfl) ?_
  intro p e s m args below meth c Q S hP hK
  obtain ⟨hx, hb, hml, hown, hts⟩ := id S
  intro hret ls hl0
  have hl : lv_has ls 2 [(0, .ref a0), (1, .int x)] := hl0
  refine lv_iload_n hx hb d_T_isFile_0 rfl (lv_at hl 1 rfl) ?_
  refine lv_if_lt (tgt := 13) hx hb d_T_isFile_1 (by decide) (fun c_1 => ?_) (fun c_1 => ?_)
  · refine lv_iconst (v := 0) hx hb d_T_isFile_13 (by decide) ?_
    exact hret _ _ _ d_T_isFile_14 rfl (by first | (simp only [isf, c_1, ↓reduceIte]; done) | (simp only [isf, c_1, ↓reduceIte]; rfl) | rfl)
  · refine lv_iload_n hx hb d_T_isFile_4 rfl (lv_at hl 1 rfl) ?_
    refine lv_iconst (v := 2) hx hb d_T_isFile_5 (by decide) ?_
    refine lv_icmp_ge (tgt := 13) hx hb d_T_isFile_6 (by decide) (fun c_6 => ?_) (fun c_6 => ?_)
    · refine lv_iconst (v := 0) hx hb d_T_isFile_13 (by decide) ?_
      exact hret _ _ _ d_T_isFile_14 rfl (by first | (simp only [isf, c_1, c_6, ↓reduceIte]; done) | (simp only [isf, c_1, c_6, ↓reduceIte]; rfl) | rfl)
    · refine lv_iconst (v := 1) hx hb d_T_isFile_9 (by decide) ?_
      refine lv_goto (tgt := 14) hx hb d_T_isFile_10 (by decide) ?_
      exact hret _ _ _ d_T_isFile_14 rfl (by first | (simp only [isf, c_1, c_6, ↓reduceIte]; done) | (simp only [isf, c_1, c_6, ↓reduceIte]; rfl) | rfl)
set_option maxHeartbeats 4000000 in
set_option maxRecDepth 100000 in
theorem c_T_rowOf (l : Launch) (D : va_G) (ca : Nat → ClassId) (a0 : Nat) (f b : Nat) : RO l y_T_rowOf b_T_rowOf 3 (some .int) 0 0 D ca [.ref a0, .int (nI f), .int (nI b)] [] (nI (f * 20 + b)) := by
  refine RO.mk (ty := .int) rfl rfl (Nat.le_of_ble_eq_true rfl) ?_
  intro p e s m args below meth c Q S hP hK
  obtain ⟨hx, hb, hml, hown, hts⟩ := id S
  intro hret ls hl0
  have hl : lv_has ls 3 [(0, .ref a0), (1, .int (nI f)), (2, .int (nI b))] := hl0
  refine lv_iload_n hx hb d_T_rowOf_0 rfl (lv_at hl 1 rfl) ?_
  refine lv_bipush (v := 20) hx hb d_T_rowOf_1 (by decide) ?_
  refine lv_imul hx hb d_T_rowOf_3 ?_
  refine lv_tope (z := nI (f * 20)) (pk_mul f 20) ?_
  refine lv_iload_n hx hb d_T_rowOf_4 rfl (lv_at hl 2 rfl) ?_
  refine lv_iadd hx hb d_T_rowOf_5 ?_
  refine lv_tope (z := nI ((f * 20) + b)) (nI_add (f * 20) b) ?_
  exact hret _ _ _ d_T_rowOf_6 rfl (by first | (simp only [↓reduceIte]; done) | (simp only [↓reduceIte]; rfl) | rfl)
set_option maxHeartbeats 4000000 in
set_option maxRecDepth 100000 in
theorem c_T_wholeLength (l : Launch) (D : va_G) (ca : Nat → ClassId) (t : Nat → Nat) (g : Nat → Int32) (r : Nat) (hr : r < 40): RO l y_T_wholeLength b_T_wholeLength 2 (some .int) 0 0 D ca [.ref (t 0), .int (nI r)] (tw ca t g) (wl g r) := by
  refine RO.mk (ty := .int) rfl rfl (Nat.le_of_ble_eq_true rfl) ?_
  intro p e s m args below meth c Q S hP hK
  obtain ⟨hx, hb, hml, hown, hts⟩ := id S
  intro hret ls hl0
  have hl : lv_has ls 2 [(0, .ref (t 0)), (1, .int (nI r))] := hl0
  refine lv_aload_n hx hb d_T_wholeLength_0 rfl (lv_at hl 0 rfl) ?_
  refine f_get S cls_T hK hP 0 rfl 9 (by decide) fl_T_data rfl rfl d_T_wholeLength_1 ?_
  refine lv_iload_n hx hb d_T_wholeLength_4 rfl (lv_at hl 1 rfl) ?_
  refine T_ar 0 (by decide) S hK hP (r := r) (by omega) rfl d_T_wholeLength_5 ?_
  refine lv_iconst (v := 2) hx hb d_T_wholeLength_6 (by decide) ?_
  refine lv_aload_n hx hb d_T_wholeLength_7 rfl (lv_at hl 0 rfl) ?_
  refine f_get S cls_T hK hP 0 rfl 11 (by decide) fl_T_marks rfl rfl d_T_wholeLength_8 ?_
  refine lv_iload_n hx hb d_T_wholeLength_11 rfl (lv_at hl 1 rfl) ?_
  refine T_ar 2 (by decide) S hK hP (r := r) (by omega) rfl d_T_wholeLength_12 ?_
  refine lv_imul hx hb d_T_wholeLength_13 ?_
  refine lv_iadd hx hb d_T_wholeLength_14 ?_
  exact hret _ _ _ d_T_wholeLength_15 rfl (by first | (simp only [wl, ↓reduceIte]; done) | (simp only [wl, ↓reduceIte]; rfl) | rfl)
set_option maxHeartbeats 4000000 in
set_option maxRecDepth 100000 in
theorem c_T_feetOfFirst (l : Launch) (D : va_G) (ca : Nat → ClassId) (t : Nat → Nat) (g : Nat → Int32) (f n : Nat) (hf : f < 2) (hn : n ≤ 20): RO l y_T_feetOfFirst b_T_feetOfFirst 5 (some .int) 1 22 D ca [.ref (t 0), .int (nI f), .int (nI n)] (tw ca t g) (ft g f n) := by
  refine RO.mk (ty := .int) rfl rfl (Nat.le_of_ble_eq_true rfl) ?_
  intro p e s m args below meth c Q S hP hK
  obtain ⟨hx, hb, hml, hown, hts⟩ := id S
  intro hret ls hl0
  have hl : lv_has ls 5 [(0, .ref (t 0)), (1, .int (nI f)), (2, .int (nI n))] := hl0
  refine lv_iconst (v := 0) hx hb d_T_feetOfFirst_0 (by decide) ?_
  refine lv_istore_n (lv' := [(3, .int 0), (0, .ref (t 0)), (1, .int (nI f)), (2, .int (nI n))]) hx hb d_T_feetOfFirst_1 rfl hl (by decide) rfl (fun ls hl => ?_)
  refine lv_iconst (v := 0) hx hb d_T_feetOfFirst_2 (by decide) ?_
  refine lv_istore (lv' := [(4, .int 0), (3, .int 0), (0, .ref (t 0)), (1, .int (nI f)), (2, .int (nI n))]) hx hb d_T_feetOfFirst_3 hl (by decide) rfl (fun ls hl => ?_)
  suffices lp : ∀ (k i : Nat), n - i < k → i ≤ n → ∀ ls : Array Slot, lv_has ls 5 [(3, .int (ft g f i)), (4, .int (nI i)), (0, .ref (t 0)), (1, .int (nI f)), (2, .int (nI n))] → W p l e (rm 1 22 0 0) s m args below meth c s.heap [] 0 0 Q (F0 m 5 ls []) from lp (n + 1) 0 (by omega) (by omega) _ (lv_sub hl [1, 0, 2, 3, 4] rfl)
  intro k
  induction k with
  | zero => intro i hi; omega
  | succ k ih =>
    intro i hi hin ls hl
    refine lv_iload hx hb d_T_feetOfFirst_5 (lv_at hl 1 rfl) ?_
    refine lv_iload_n hx hb d_T_feetOfFirst_7 rfl (lv_at hl 4 rfl) ?_
    refine lv_icmp_ge (tgt := 31) hx hb d_T_feetOfFirst_8 (by decide) (fun c_8 => ?_) (fun c_8 => ?_)
    · have e_8 : n ≤ i := le_of_nI (by omega) (by omega) c_8
      have e2_8 : i = n := by omega
      subst e2_8
      refine lv_iload_n hx hb d_T_feetOfFirst_31 rfl (lv_at hl 0 rfl) ?_
      exact hret _ _ _ d_T_feetOfFirst_32 rfl (by first | (simp only [ft, c_8, ↓reduceIte]; done) | (simp only [ft, c_8, ↓reduceIte]; rfl) | rfl)
    · have e_8 : i < n := nle_lt (by omega) (by omega) c_8
      refine lv_iload_n hx hb d_T_feetOfFirst_11 rfl (lv_at hl 0 rfl) ?_
      refine lv_aload_n hx hb d_T_feetOfFirst_12 rfl (lv_at hl 2 rfl) ?_
      refine lv_aload_n hx hb d_T_feetOfFirst_13 rfl (lv_at hl 2 rfl) ?_
      refine lv_iload_n hx hb d_T_feetOfFirst_14 rfl (lv_at hl 3 rfl) ?_
      refine lv_iload hx hb d_T_feetOfFirst_15 (lv_at hl 1 rfl) ?_
      refine T_ro0 S (c_T_rowOf l D ca (t 0) f i ) k_T_82 rfl hP hK rfl rfl hl.1 ⟨Nat.le_of_ble_eq_true rfl, Nat.le_of_ble_eq_true rfl⟩ ⟨Nat.zero_le _, Nat.zero_le _⟩ (Nat.le_of_ble_eq_true rfl) d_T_feetOfFirst_17 ?_
      refine T_ro S (c_T_wholeLength l D ca t g (f * 20 + i) (by omega)) k_T_113 rfl hP hK rfl rfl hl.1 ⟨Nat.le_of_ble_eq_true rfl, Nat.le_of_ble_eq_true rfl⟩ ⟨Nat.zero_le _, Nat.zero_le _⟩ (Nat.le_of_ble_eq_true rfl) d_T_feetOfFirst_20 ?_
      refine lv_iadd hx hb d_T_feetOfFirst_23 ?_
      refine lv_istore_n (lv' := [(3, .int (ft g f (i + 1))), (4, .int (nI i)), (0, .ref (t 0)), (1, .int (nI f)), (2, .int (nI n))]) hx hb d_T_feetOfFirst_24 rfl hl (by decide) rfl (fun ls hl => ?_)
      refine lv_iinc (v := nI (i + 1)) (lv' := [(4, .int (nI (i + 1))), (3, .int (ft g f (i + 1))), (0, .ref (t 0)), (1, .int (nI f)), (2, .int (nI n))]) hx hb d_T_feetOfFirst_25 hl (k := 1) rfl (nI_1 i) (by decide) rfl (fun ls hl => ?_)
      refine lv_goto (tgt := 5) hx hb d_T_feetOfFirst_28 (by decide) ?_
      exact ih (i + 1) (by omega) (by omega) _ (lv_sub hl [1, 0, 2, 3, 4] rfl)
set_option maxHeartbeats 4000000 in
set_option maxRecDepth 100000 in
theorem c_T_gap (l : Launch) (D : va_G) (ca : Nat → ClassId) (t : Nat → Nat) (g : Nat → Int32)  (hB : BN g): RO l y_T_gap b_T_gap 1 (some .int) 2 46 D ca [.ref (t 0)] (tw ca t g) (gp g) := by
  refine RO.mk (ty := .int) rfl rfl (Nat.le_of_ble_eq_true rfl) ?_
  intro p e s m args below meth c Q S hP hK
  obtain ⟨hx, hb, hml, hown, hts⟩ := id S
  intro hret ls hl0
  have hl : lv_has ls 1 [(0, .ref (t 0))] := hl0
  refine lv_aload_n hx hb d_T_gap_0 rfl (lv_at hl 0 rfl) ?_
  refine f_get S cls_T hK hP 0 rfl 0 (by decide) fl_T_feet rfl rfl d_T_gap_1 ?_
  refine lv_aload_n hx hb d_T_gap_4 rfl (lv_at hl 0 rfl) ?_
  refine lv_iconst (v := 0) hx hb d_T_gap_5 (by decide) ?_
  refine lv_aload_n hx hb d_T_gap_6 rfl (lv_at hl 0 rfl) ?_
  refine f_get S cls_T hK hP 0 rfl 8 (by decide) fl_T_blocks rfl rfl d_T_gap_7 ?_
  refine lv_iconst (v := 0) hx hb d_T_gap_10 (by decide) ?_
  refine T_bl S hK hP hB (f := 0) (by omega) rfl d_T_gap_11 ?_
  have hn0 := (hB 0 (by omega)).2
  refine T_ro S (c_T_feetOfFirst l D ca t g 0 (bn g 0) (by omega) (by omega)) k_T_106 rfl hP hK rfl rfl hl.1 ⟨Nat.le_of_ble_eq_true rfl, Nat.le_of_ble_eq_true rfl⟩ ⟨Nat.zero_le _, Nat.zero_le _⟩ (Nat.le_of_ble_eq_true rfl) d_T_gap_12 ?_
  refine lv_isub hx hb d_T_gap_15 ?_
  refine lv_aload_n hx hb d_T_gap_16 rfl (lv_at hl 0 rfl) ?_
  refine lv_iconst (v := 1) hx hb d_T_gap_17 (by decide) ?_
  refine lv_aload_n hx hb d_T_gap_18 rfl (lv_at hl 0 rfl) ?_
  refine f_get S cls_T hK hP 0 rfl 8 (by decide) fl_T_blocks rfl rfl d_T_gap_19 ?_
  refine lv_iconst (v := 1) hx hb d_T_gap_22 (by decide) ?_
  refine T_bl S hK hP hB (f := 1) (by omega) rfl d_T_gap_23 ?_
  have hn1 := (hB 1 (by omega)).2
  refine T_ro S (c_T_feetOfFirst l D ca t g 1 (bn g 1) (by omega) (by omega)) k_T_106 rfl hP hK rfl rfl hl.1 ⟨Nat.le_of_ble_eq_true rfl, Nat.le_of_ble_eq_true rfl⟩ ⟨Nat.zero_le _, Nat.zero_le _⟩ (Nat.le_of_ble_eq_true rfl) d_T_gap_24 ?_
  refine lv_isub hx hb d_T_gap_27 ?_
  exact hret _ _ _ d_T_gap_28 rfl (by first | (simp only [gp, ↓reduceIte]; done) | (simp only [gp, ↓reduceIte]; rfl) | rfl)
set_option maxHeartbeats 4000000 in
set_option maxRecDepth 100000 in
theorem c_T_endInGap (l : Launch) (D : va_G) (ca : Nat → ClassId) (t : Nat → Nat) (g : Nat → Int32) (f : Nat) (hB : BN g) (hf : f < 2): RO l y_T_endInGap b_T_endInGap 3 (some .int) 2 46 D ca [.ref (t 0), .int (nI f)] (tw ca t g) (en g f) := by
  refine RO.mk (ty := .int) rfl rfl (Nat.le_of_ble_eq_true rfl) ?_
  intro p e s m args below meth c Q S hP hK
  obtain ⟨hx, hb, hml, hown, hts⟩ := id S
  intro hret ls hl0
  have hl : lv_has ls 3 [(0, .ref (t 0)), (1, .int (nI f))] := hl0
  refine lv_aload_n hx hb d_T_endInGap_0 rfl (lv_at hl 0 rfl) ?_
  refine lv_iload_n hx hb d_T_endInGap_1 rfl (lv_at hl 1 rfl) ?_
  refine lv_aload_n hx hb d_T_endInGap_2 rfl (lv_at hl 0 rfl) ?_
  refine f_get S cls_T hK hP 0 rfl 8 (by decide) fl_T_blocks rfl rfl d_T_endInGap_3 ?_
  refine lv_iload_n hx hb d_T_endInGap_6 rfl (lv_at hl 1 rfl) ?_
  refine T_bl S hK hP hB (f := f) (by omega) rfl d_T_endInGap_7 ?_
  have hn := (hB f hf).2
  refine T_ro S (c_T_feetOfFirst l D ca t g f (bn g f) (by omega) (by omega)) k_T_106 rfl hP hK rfl rfl hl.1 ⟨Nat.le_of_ble_eq_true rfl, Nat.le_of_ble_eq_true rfl⟩ ⟨Nat.zero_le _, Nat.zero_le _⟩ (Nat.le_of_ble_eq_true rfl) d_T_endInGap_8 ?_
  refine lv_istore_n (lv' := [(2, .int (ft g f (bn g f))), (0, .ref (t 0)), (1, .int (nI f))]) hx hb d_T_endInGap_11 rfl hl (by decide) rfl (fun ls hl => ?_)
  refine lv_iload_n hx hb d_T_endInGap_12 rfl (lv_at hl 2 rfl) ?_
  refine lv_if_ne (tgt := 20) hx hb d_T_endInGap_13 (by decide) (fun c_13 => ?_) (fun c_13 => ?_)
  · have e_c_13 : ¬ f = 0 := n0I c_13
    refine lv_aload_n hx hb d_T_endInGap_20 rfl (lv_at hl 1 rfl) ?_
    refine f_get S cls_T hK hP 0 rfl 0 (by decide) fl_T_feet rfl rfl d_T_endInGap_21 ?_
    refine lv_iload_n hx hb d_T_endInGap_24 rfl (lv_at hl 0 rfl) ?_
    refine lv_isub hx hb d_T_endInGap_25 ?_
    exact hret _ _ _ d_T_endInGap_26 rfl (by first | (simp only [en, c_13, e_c_13, ↓reduceIte]; done) | (simp only [en, c_13, e_c_13, ↓reduceIte]; rfl) | rfl)
  · have e_c_13 : f = 0 := nI0 (by omega) c_13
    refine lv_iload_n hx hb d_T_endInGap_16 rfl (lv_at hl 0 rfl) ?_
    refine lv_goto (tgt := 26) hx hb d_T_endInGap_17 (by decide) ?_
    exact hret _ _ _ d_T_endInGap_26 rfl (by first | (simp only [en, c_13, e_c_13, ↓reduceIte]; done) | (simp only [en, c_13, e_c_13, ↓reduceIte]; rfl) | rfl)
set_option maxHeartbeats 4000000 in
set_option maxRecDepth 100000 in
theorem c_T_isInGap (l : Launch) (D : va_G) (ca : Nat → ClassId) (t : Nat → Nat) (g : Nat → Int32) (x y : Int32) (hB : BN g): RO l y_T_isInGap b_T_isInGap 3 (some .boolean) 3 68 D ca [.ref (t 0), .int x, .int y] (tw ca t g) (iig g x y) := by
  refine RO.mk (ty := .boolean) rfl rfl (Nat.le_of_ble_eq_true rfl) ?_
  intro p e s m args below meth c Q S hP hK
  obtain ⟨hx, hb, hml, hown, hts⟩ := id S
  intro hret ls hl0
  have hl : lv_has ls 3 [(0, .ref (t 0)), (1, .int x), (2, .int y)] := hl0
  refine lv_iload_n hx hb d_T_isInGap_0 rfl (lv_at hl 1 rfl) ?_
  refine lv_aload_n hx hb d_T_isInGap_1 rfl (lv_at hl 0 rfl) ?_
  refine lv_iconst (v := 0) hx hb d_T_isInGap_2 (by decide) ?_
  refine T_ro S (c_T_endInGap l D ca t g 0 hB (by omega)) k_T_75 rfl hP hK rfl rfl hl.1 ⟨Nat.le_of_ble_eq_true rfl, Nat.le_of_ble_eq_true rfl⟩ ⟨Nat.zero_le _, Nat.zero_le _⟩ (Nat.le_of_ble_eq_true rfl) d_T_isInGap_3 ?_
  refine lv_icmp_lt (tgt := 22) hx hb d_T_isInGap_6 (by decide) (fun c_6 => ?_) (fun c_6 => ?_)
  · refine lv_iconst (v := 0) hx hb d_T_isInGap_22 (by decide) ?_
    exact hret _ _ _ d_T_isInGap_23 rfl (by first | (simp only [iig, c_6, ↓reduceIte]; done) | (simp only [iig, c_6, ↓reduceIte]; rfl) | rfl)
  · refine lv_iload_n hx hb d_T_isInGap_9 rfl (lv_at hl 2 rfl) ?_
    refine lv_aload_n hx hb d_T_isInGap_10 rfl (lv_at hl 0 rfl) ?_
    refine lv_iconst (v := 1) hx hb d_T_isInGap_11 (by decide) ?_
    refine T_ro S (c_T_endInGap l D ca t g 1 hB (by omega)) k_T_75 rfl hP hK rfl rfl hl.1 ⟨Nat.le_of_ble_eq_true rfl, Nat.le_of_ble_eq_true rfl⟩ ⟨Nat.zero_le _, Nat.zero_le _⟩ (Nat.le_of_ble_eq_true rfl) d_T_isInGap_12 ?_
    refine lv_icmp_gt (tgt := 22) hx hb d_T_isInGap_15 (by decide) (fun c_15 => ?_) (fun c_15 => ?_)
    · refine lv_iconst (v := 0) hx hb d_T_isInGap_22 (by decide) ?_
      exact hret _ _ _ d_T_isInGap_23 rfl (by first | (simp only [iig, c_6, c_15, ↓reduceIte]; done) | (simp only [iig, c_6, c_15, ↓reduceIte]; rfl) | rfl)
    · refine lv_iconst (v := 1) hx hb d_T_isInGap_18 (by decide) ?_
      refine lv_goto (tgt := 23) hx hb d_T_isInGap_19 (by decide) ?_
      exact hret _ _ _ d_T_isInGap_23 rfl (by first | (simp only [iig, c_6, c_15, ↓reduceIte]; done) | (simp only [iig, c_6, c_15, ↓reduceIte]; rfl) | rfl)
set_option maxHeartbeats 4000000 in
set_option maxRecDepth 100000 in
theorem c_T_lowerEnd (l : Launch) (D : va_G) (ca : Nat → ClassId) (t : Nat → Nat) (g : Nat → Int32) (f b : Nat) (hf : f < 2) (hb20 : b < 20): RO l y_T_lowerEnd b_T_lowerEnd 3 (some .int) 2 46 D ca [.ref (t 0), .int (nI f), .int (nI b)] (tw ca t g) (lo g f b) := by
  refine RO.mk (ty := .int) rfl rfl (Nat.le_of_ble_eq_true rfl) ?_
  intro p e s m args below meth c Q S hP hK
  obtain ⟨hx, hb, hml, hown, hts⟩ := id S
  intro hret ls hl0
  have hl : lv_has ls 3 [(0, .ref (t 0)), (1, .int (nI f)), (2, .int (nI b))] := hl0
  refine lv_iload_n hx hb d_T_lowerEnd_0 rfl (lv_at hl 1 rfl) ?_
  refine lv_if_ne (tgt := 13) hx hb d_T_lowerEnd_1 (by decide) (fun c_1 => ?_) (fun c_1 => ?_)
  · have e_c_1 : ¬ f = 0 := n0I c_1
    refine lv_aload_n hx hb d_T_lowerEnd_13 rfl (lv_at hl 0 rfl) ?_
    refine f_get S cls_T hK hP 0 rfl 0 (by decide) fl_T_feet rfl rfl d_T_lowerEnd_14 ?_
    refine lv_aload_n hx hb d_T_lowerEnd_17 rfl (lv_at hl 0 rfl) ?_
    refine lv_iload_n hx hb d_T_lowerEnd_18 rfl (lv_at hl 1 rfl) ?_
    refine lv_iload_n hx hb d_T_lowerEnd_19 rfl (lv_at hl 2 rfl) ?_
    refine lv_iconst (v := 1) hx hb d_T_lowerEnd_20 (by decide) ?_
    refine lv_iadd hx hb d_T_lowerEnd_21 ?_
    refine lv_tope (z := nI (b + 1)) (nI_add b 1) ?_
    refine T_ro S (c_T_feetOfFirst l D ca t g f (b + 1) (by omega) (by omega)) k_T_106 rfl hP hK rfl rfl hl.1 ⟨Nat.le_of_ble_eq_true rfl, Nat.le_of_ble_eq_true rfl⟩ ⟨Nat.zero_le _, Nat.zero_le _⟩ (Nat.le_of_ble_eq_true rfl) d_T_lowerEnd_22 ?_
    refine lv_isub hx hb d_T_lowerEnd_25 ?_
    exact hret _ _ _ d_T_lowerEnd_26 rfl (by first | (simp only [lo, c_1, e_c_1, ↓reduceIte]; done) | (simp only [lo, c_1, e_c_1, ↓reduceIte]; rfl) | rfl)
  · have e_c_1 : f = 0 := nI0 (by omega) c_1
    refine lv_aload_n hx hb d_T_lowerEnd_4 rfl (lv_at hl 0 rfl) ?_
    refine lv_iload_n hx hb d_T_lowerEnd_5 rfl (lv_at hl 1 rfl) ?_
    refine lv_iload_n hx hb d_T_lowerEnd_6 rfl (lv_at hl 2 rfl) ?_
    refine T_ro S (c_T_feetOfFirst l D ca t g f b (by omega) (by omega)) k_T_106 rfl hP hK rfl rfl hl.1 ⟨Nat.le_of_ble_eq_true rfl, Nat.le_of_ble_eq_true rfl⟩ ⟨Nat.zero_le _, Nat.zero_le _⟩ (Nat.le_of_ble_eq_true rfl) d_T_lowerEnd_7 ?_
    refine lv_goto (tgt := 26) hx hb d_T_lowerEnd_10 (by decide) ?_
    exact hret _ _ _ d_T_lowerEnd_26 rfl (by first | (simp only [lo, c_1, e_c_1, ↓reduceIte]; done) | (simp only [lo, c_1, e_c_1, ↓reduceIte]; rfl) | rfl)
set_option maxHeartbeats 4000000 in
set_option maxRecDepth 100000 in
theorem c_T_startOfReading (l : Launch) (D : va_G) (ca : Nat → ClassId) (t : Nat → Nat) (g : Nat → Int32) (f b w : Nat) (hf : f < 2) (hb20 : b < 20) (hw : w < 2): RO l y_T_startOfReading b_T_startOfReading 5 (some .int) 3 68 D ca [.ref (t 0), .int (nI f), .int (nI b), .int (nI w)] (tw ca t g) (sr g f b w) := by
  refine RO.mk (ty := .int) rfl rfl (Nat.le_of_ble_eq_true rfl) ?_
  intro p e s m args below meth c Q S hP hK
  obtain ⟨hx, hb, hml, hown, hts⟩ := id S
  intro hret ls hl0
  have hl : lv_has ls 5 [(0, .ref (t 0)), (1, .int (nI f)), (2, .int (nI b)), (3, .int (nI w))] := hl0
  refine lv_aload_n hx hb d_T_startOfReading_0 rfl (lv_at hl 0 rfl) ?_
  refine lv_iload_n hx hb d_T_startOfReading_1 rfl (lv_at hl 1 rfl) ?_
  refine lv_iload_n hx hb d_T_startOfReading_2 rfl (lv_at hl 2 rfl) ?_
  refine T_ro S (c_T_lowerEnd l D ca t g f b (by omega) (by omega)) k_T_116 rfl hP hK rfl rfl hl.1 ⟨Nat.le_of_ble_eq_true rfl, Nat.le_of_ble_eq_true rfl⟩ ⟨Nat.zero_le _, Nat.zero_le _⟩ (Nat.le_of_ble_eq_true rfl) d_T_startOfReading_3 ?_
  refine lv_istore (lv' := [(4, .int (lo g f b)), (0, .ref (t 0)), (1, .int (nI f)), (2, .int (nI b)), (3, .int (nI w))]) hx hb d_T_startOfReading_6 hl (by decide) rfl (fun ls hl => ?_)
  refine lv_iload_n hx hb d_T_startOfReading_8 rfl (lv_at hl 2 rfl) ?_
  refine lv_iload_n hx hb d_T_startOfReading_9 rfl (lv_at hl 4 rfl) ?_
  refine lv_icmp_ne (tgt := 18) hx hb d_T_startOfReading_10 (by decide) (fun c_10 => ?_) (fun c_10 => ?_)
  · have e_10 : ¬ f = w := fun q => c_10 (by rw [q])
    refine lv_iload hx hb d_T_startOfReading_18 (lv_at hl 0 rfl) ?_
    refine lv_aload_n hx hb d_T_startOfReading_20 rfl (lv_at hl 1 rfl) ?_
    refine lv_aload_n hx hb d_T_startOfReading_21 rfl (lv_at hl 1 rfl) ?_
    refine lv_iload_n hx hb d_T_startOfReading_22 rfl (lv_at hl 2 rfl) ?_
    refine lv_iload_n hx hb d_T_startOfReading_23 rfl (lv_at hl 3 rfl) ?_
    refine T_ro0 S (c_T_rowOf l D ca (t 0) f b ) k_T_82 rfl hP hK rfl rfl hl.1 ⟨Nat.le_of_ble_eq_true rfl, Nat.le_of_ble_eq_true rfl⟩ ⟨Nat.zero_le _, Nat.zero_le _⟩ (Nat.le_of_ble_eq_true rfl) d_T_startOfReading_24 ?_
    refine T_ro S (c_T_wholeLength l D ca t g (f * 20 + b) (by omega)) k_T_113 rfl hP hK rfl rfl hl.1 ⟨Nat.le_of_ble_eq_true rfl, Nat.le_of_ble_eq_true rfl⟩ ⟨Nat.zero_le _, Nat.zero_le _⟩ (Nat.le_of_ble_eq_true rfl) d_T_startOfReading_27 ?_
    refine lv_iadd hx hb d_T_startOfReading_30 ?_
    exact hret _ _ _ d_T_startOfReading_31 rfl (by first | (simp only [sr, c_10, e_10, ↓reduceIte]; done) | (simp only [sr, c_10, e_10, ↓reduceIte]; rfl) | rfl)
  · have e_10 : f = w := (nI_eq (by omega) (by omega)).mp c_10
    refine lv_iload hx hb d_T_startOfReading_13 (lv_at hl 0 rfl) ?_
    refine lv_goto (tgt := 31) hx hb d_T_startOfReading_15 (by decide) ?_
    exact hret _ _ _ d_T_startOfReading_31 rfl (by first | (simp only [sr, c_10, e_10, ↓reduceIte]; done) | (simp only [sr, c_10, e_10, ↓reduceIte]; rfl) | rfl)
set_option maxHeartbeats 4000000 in
set_option maxRecDepth 100000 in
theorem c_T_travelToRead (l : Launch) (D : va_G) (ca : Nat → ClassId) (t : Nat → Nat) (g : Nat → Int32) (f b w : Nat) (hf : f < 2) (hb20 : b < 20) (hw : w < 2): RO l y_T_travelToRead b_T_travelToRead 4 (some .int) 4 92 D ca [.ref (t 0), .int (nI f), .int (nI b), .int (nI w)] (tw ca t g) (tr g f b w) := by
  refine RO.mk (ty := .int) rfl rfl (Nat.le_of_ble_eq_true rfl) ?_
  intro p e s m args below meth c Q S hP hK
  obtain ⟨hx, hb, hml, hown, hts⟩ := id S
  intro hret ls hl0
  have hl : lv_has ls 4 [(0, .ref (t 0)), (1, .int (nI f)), (2, .int (nI b)), (3, .int (nI w))] := hl0
  refine lv_aload_n hx hb d_T_travelToRead_0 rfl (lv_at hl 0 rfl) ?_
  refine lv_iload_n hx hb d_T_travelToRead_1 rfl (lv_at hl 1 rfl) ?_
  refine lv_iload_n hx hb d_T_travelToRead_2 rfl (lv_at hl 2 rfl) ?_
  refine lv_iload_n hx hb d_T_travelToRead_3 rfl (lv_at hl 3 rfl) ?_
  refine T_ro S (c_T_startOfReading l D ca t g f b w (by omega) (by omega) (by omega)) k_T_89 rfl hP hK rfl rfl hl.1 ⟨Nat.le_of_ble_eq_true rfl, Nat.le_of_ble_eq_true rfl⟩ ⟨Nat.zero_le _, Nat.zero_le _⟩ (Nat.le_of_ble_eq_true rfl) d_T_travelToRead_4 ?_
  refine lv_aload_n hx hb d_T_travelToRead_7 rfl (lv_at hl 0 rfl) ?_
  refine f_get S cls_T hK hP 0 rfl 3 (by decide) fl_T_head rfl rfl d_T_travelToRead_8 ?_
  refine lv_isub hx hb d_T_travelToRead_11 ?_
  refine va_mabs hx hb (hml.trans hl.1.symm) hown (hts _ kx_T_102) (hts _ xs_Math_abs) (hts _ in_java_lang_Math) (hts _ xc_Math_abs) (Nat.le_of_ble_eq_true rfl) (Nat.le_of_ble_eq_true rfl) (Nat.zero_le _) (Nat.zero_le _) d_T_travelToRead_12 ?_
  refine lv_tope (z := ab ((sr g f b w) - (g 3))) rfl ?_
  refine lv_aload_n hx hb d_T_travelToRead_15 rfl (lv_at hl 0 rfl) ?_
  refine lv_aload_n hx hb d_T_travelToRead_16 rfl (lv_at hl 0 rfl) ?_
  refine lv_iload_n hx hb d_T_travelToRead_17 rfl (lv_at hl 1 rfl) ?_
  refine lv_iload_n hx hb d_T_travelToRead_18 rfl (lv_at hl 2 rfl) ?_
  refine T_ro0 S (c_T_rowOf l D ca (t 0) f b ) k_T_82 rfl hP hK rfl rfl hl.1 ⟨Nat.le_of_ble_eq_true rfl, Nat.le_of_ble_eq_true rfl⟩ ⟨Nat.zero_le _, Nat.zero_le _⟩ (Nat.le_of_ble_eq_true rfl) d_T_travelToRead_19 ?_
  refine T_ro S (c_T_wholeLength l D ca t g (f * 20 + b) (by omega)) k_T_113 rfl hP hK rfl rfl hl.1 ⟨Nat.le_of_ble_eq_true rfl, Nat.le_of_ble_eq_true rfl⟩ ⟨Nat.zero_le _, Nat.zero_le _⟩ (Nat.le_of_ble_eq_true rfl) d_T_travelToRead_22 ?_
  refine lv_iadd hx hb d_T_travelToRead_25 ?_
  exact hret _ _ _ d_T_travelToRead_26 rfl (by first | (simp only [tr, ab, ↓reduceIte]; done) | (simp only [tr, ab, ↓reduceIte]; rfl) | rfl)
set_option maxHeartbeats 4000000 in
set_option maxRecDepth 100000 in
theorem c_T_allBlocks (l : Launch) (D : va_G) (ca : Nat → ClassId) (t : Nat → Nat) (g : Nat → Int32)  (hB : BN g): RO l y_T_allBlocks b_T_allBlocks 1 (some .int) 0 0 D ca [.ref (t 0)] (tw ca t g) (nI (bn g 0 + bn g 1)) := by
  refine RO.mk (ty := .int) rfl rfl (Nat.le_of_ble_eq_true rfl) ?_
  intro p e s m args below meth c Q S hP hK
  obtain ⟨hx, hb, hml, hown, hts⟩ := id S
  intro hret ls hl0
  have hl : lv_has ls 1 [(0, .ref (t 0))] := hl0
  refine lv_aload_n hx hb d_T_allBlocks_0 rfl (lv_at hl 0 rfl) ?_
  refine f_get S cls_T hK hP 0 rfl 8 (by decide) fl_T_blocks rfl rfl d_T_allBlocks_1 ?_
  refine lv_iconst (v := 0) hx hb d_T_allBlocks_4 (by decide) ?_
  refine T_bl S hK hP hB (f := 0) (by omega) rfl d_T_allBlocks_5 ?_
  refine lv_aload_n hx hb d_T_allBlocks_6 rfl (lv_at hl 0 rfl) ?_
  refine f_get S cls_T hK hP 0 rfl 8 (by decide) fl_T_blocks rfl rfl d_T_allBlocks_7 ?_
  refine lv_iconst (v := 1) hx hb d_T_allBlocks_10 (by decide) ?_
  refine T_bl S hK hP hB (f := 1) (by omega) rfl d_T_allBlocks_11 ?_
  refine lv_iadd hx hb d_T_allBlocks_12 ?_
  refine lv_tope (z := nI ((bn g 0) + (bn g 1))) (nI_add (bn g 0) (bn g 1)) ?_
  exact hret _ _ _ d_T_allBlocks_13 rfl (by first | (simp only [↓reduceIte]; done) | (simp only [↓reduceIte]; rfl) | rfl)
set_option maxHeartbeats 4000000 in
set_option maxRecDepth 100000 in
theorem c_T_travelTo (l : Launch) (D : va_G) (ca : Nat → ClassId) (t : Nat → Nat) (g : Nat → Int32) (x : Int32) : MI l y_T_travelTo b_T_travelTo 3 (some .int) 1 30 D ca [.ref (t 0), .int x] (tw ca t g) (ab (x - g 3)) (tw ca t (tv g x)) := by
  refine MI.mk (ty := .int) rfl rfl (Nat.le_of_ble_eq_true rfl) ?_
  intro p e s m args below meth c Q A S hA hP hD hK
  obtain ⟨hx, hb, hml, hown, hts⟩ := id S
  intro hret ls hl0 hS
  have hl : lv_has ls 3 [(0, .ref (t 0)), (1, .int x)] := hl0
  refine lv_iload_n hx hb d_T_travelTo_0 rfl (lv_at hl 1 rfl) ?_
  refine lv_aload_n hx hb d_T_travelTo_1 rfl (lv_at hl 0 rfl) ?_
  refine f_get S cls_T hK hP 0 rfl 3 (by decide) fl_T_head rfl rfl d_T_travelTo_2 ?_
  refine lv_isub hx hb d_T_travelTo_5 ?_
  refine va_mabs hx hb (hml.trans hl.1.symm) hown (hts _ kx_T_102) (hts _ xs_Math_abs) (hts _ in_java_lang_Math) (hts _ xc_Math_abs) (Nat.le_of_ble_eq_true rfl) (Nat.le_of_ble_eq_true rfl) (Nat.zero_le _) (Nat.zero_le _) d_T_travelTo_6 ?_
  refine lv_tope (z := ab (x - (g 3))) rfl ?_
  refine lv_tope (z := ab (x - g 3)) (rfl) ?_
  refine lv_istore_n (lv' := [(2, .int (ab (x - g 3))), (0, .ref (t 0)), (1, .int x)]) hx hb d_T_travelTo_9 rfl hl (by decide) rfl (fun ls hl => ?_)
  refine lv_aload_n hx hb d_T_travelTo_10 rfl (lv_at hl 1 rfl) ?_
  refine lv_aload_n hx hb d_T_travelTo_11 rfl (lv_at hl 1 rfl) ?_
  refine f_get S cls_T hK hP 0 rfl 6 (by decide) fl_T_travel rfl rfl d_T_travelTo_12 ?_
  refine lv_iload_n hx hb d_T_travelTo_15 rfl (lv_at hl 0 rfl) ?_
  refine lv_iadd hx hb d_T_travelTo_16 ?_
  refine lv_ldc (v := 1000000000) hx hb hown (hts _ ct_T_105) d_T_travelTo_17 ?_
  refine lv_irem hx hb d_T_travelTo_19 (by decide) ?_
  refine T_put S hK hP hD hS 6 (by decide) fl_T_travel d_T_travelTo_20 (fun H locs hP hD hS => ?_)
  obtain ⟨g1, hg1⟩ : ∃ z : Nat → Int32, z = upd g 6 (((g 6) + (ab (x - g 3))) - ((g 6) + (ab (x - g 3))) / 1000000000 * 1000000000) := ⟨_, rfl⟩
  rw [← hg1] at hP hD
  refine lv_aload_n hx hb d_T_travelTo_23 rfl (lv_at hl 1 rfl) ?_
  refine lv_iload_n hx hb d_T_travelTo_24 rfl (lv_at hl 2 rfl) ?_
  refine T_put S hK hP hD hS 3 (by decide) fl_T_head d_T_travelTo_25 (fun H locs hP hD hS => ?_)
  obtain ⟨g2, hg2⟩ : ∃ z : Nat → Int32, z = upd g1 3 x := ⟨_, rfl⟩
  rw [← hg2] at hP hD
  refine lv_iload_n hx hb d_T_travelTo_28 rfl (lv_at hl 0 rfl) ?_
  exact hret _ _ _ _ _ _ d_T_travelTo_29 rfl (by subst hg1 hg2; first | (simp only [tv, rem9, ↓reduceIte]; done) | (simp only [tv, rem9, ↓reduceIte]; rfl) | rfl) (by subst hg1 hg2; first | (simp only [tv, rem9, ↓reduceIte]; done) | (simp only [tv, rem9, ↓reduceIte]; rfl) | rfl) hP hD hS
