/-! What the model's methods answer -/
def inr (v a b : Int32) : Int32 := if v < a then 0 else if b < v then 0 else 1
def ap (a b : Int32) : Int32 := if a ≤ b then b - a else a - b
def tvm (g : Nat → Int32) (x : Int32) : Nat → Int32 := upd (upd g 6 (rem9 (g 6 + ap (g 3) x))) 3 x
def eo (g : Nat → Int32) (f b w q : Nat) : Int32 := if (f + w) % 2 = 0 then (if (1 : Int32) = nI q then lo g f b else lo g f b + wl g (f * 20 + b)) else (if (0 : Int32) = nI q then lo g f b else lo g f b + wl g (f * 20 + b))
def m_tr (g : Nat → Int32) (f b w : Nat) : Int32 := ap (g 3) (sr g f b w) + wl g (f * 20 + b)
def m_wf (g : Nat → Int32) (x d u : Int32) : Int32 := if isf x = 0 then -1 else if inr d 1 99 = 0 then -2 else if inr u 0 9999 = 0 then -2 else if nI (bn g x.toNatClampNeg) = 20 then -4 else if g 1 ≤ gp g - d - 2 * g 2 then 0 else -5
def m_wr (g : Nat → Int32) (f b : Nat) (d u : Int32) : Nat → Int32 :=
  let g1 := tvm g (en g f)
  let g2 := upd g1 (10 + 4 * (f * 20 + b) + 0) d
  let g3 := upd g2 (10 + 4 * (f * 20 + b) + 1) u
  let g4 := upd g3 (10 + 4 * (f * 20 + b) + 2) (g3 2)
  let g5 := upd g4 (10 + 4 * (f * 20 + b) + 3) 0
  let g6 := upd g5 (8 + f) (nI (b + 1))
  tvm g6 (en g6 f)
def m_cf (g : Nat → Int32) (x y : Int32) : Int32 := if isf x = 0 then -1 else if 0 ≤ y then (if y ≤ nI (bn g x.toNatClampNeg) then 0 else -5) else -2
def m_rew (g : Nat → Int32) : Int32 × (Nat → Int32) := if g 0 - g 3 < g 3 then ((tvm g (g 0)) 3, tvm g (g 0)) else ((tvm g 0) 3, tvm g 0)
def m_rf (g : Nat → Int32) (x y z : Int32) : Int32 := if ibk g x y = 0 then -1 else if inr z 0 1 = 0 then -2 else 0
def m_rv (g : Nat → Int32) (f b w : Nat) : Int32 × (Nat → Int32) :=
  let g1 := tvm g (sr g f b w)
  let g2 := tvm g1 (sr g1 f b (1 - w))
  let g3 := upd g2 (10 + 4 * (f * 20 + b) + 3) (g2 (10 + 4 * (f * 20 + b) + 3) + 1)
  let g4 := upd g3 7 (g3 7 + 1)
  (rem10 (g4 (10 + 4 * (f * 20 + b) + 1) + nI b + nI w), g4)
def wlp (g : Nat → Int32) (x y : Int32) : Nat → Nat → Int32
  | 0, _ => -6
  | r + 1, k => if nI (bn g (k / 20)) ≤ nI (k % 20) then wlp g x y r (k + 1) else if x < fd g (k / 20) (k % 20) then wlp g x y r (k + 1) else if lo g (k / 20) (k % 20) + wl g (k / 20 * 20 + k % 20) - g (10 + 4 * (k / 20 * 20 + k % 20) + 2) ≤ y then wlp g x y r (k + 1) else nI k
def m_wi (g : Nat → Int32) (x y : Int32) : Int32 := if x < en g 0 then wlp g x y 40 0 else if en g 1 ≤ y then wlp g x y 40 0 else -1
def m_at (g : Nat → Int32) (x : Int32) : Int32 := if inr x 0 (g 0 - 1) = 0 then -2 else if m_wi g x x = -1 then 0 else if m_wi g x x < 0 then (if en g 0 ≤ x then 11 else 1) else 2 + 10 * (m_wi g x x / 20)
def m_fit (g : Nat → Int32) (x : Int32) : Int32 := if isf x = 0 then -1 else if gp g - g 1 - 2 * g 2 < 0 then 0 else if nI (bn g x.toNatClampNeg) = 20 then 0 else if gp g - g 1 - 2 * g 2 ≤ 99 then gp g - g 1 - 2 * g 2 else 99
def m_roo (g : Nat → Int32) (x : Int32) : Int32 := if inr x 1 99 = 0 then -2 else if 40 - nI (bn g 0) - nI (bn g 1) ≤ (gp g - g 1) / (x + 2 * g 2) then 40 - nI (bn g 0) - nI (bn g 1) else (gp g - g 1) / (x + 2 * g 2)
def mns (g : Nat → Int32) (k : Nat) (q : Int32 × Int32) : Int32 × Int32 := if nI (bn g (k / 40)) ≤ nI (k / 2 % 20) then q else if q.1 = -6 then (nI k, m_tr g (k / 40) (k / 2 % 20) (k % 2)) else if q.2 ≤ m_tr g (k / 40) (k / 2 % 20) (k % 2) then q else (nI k, m_tr g (k / 40) (k / 2 % 20) (k % 2))
def mnl (g : Nat → Int32) : Nat → Nat → Int32 × Int32 → Int32 × Int32
  | 0, _, q => q
  | r + 1, k, q => mnl g r (k + 1) (mns g k q)
def mnx (x : Int32) (q : Int32 × Int32) : Int32 := if q.1 = -6 then -6 else if x = 0 then q.1 / 40 else if x = 1 then q.1 / 2 - q.1 / 2 / 20 * 20 else if x = 2 then q.1 - q.1 / 2 * 2 else q.2
def m_nea (g : Nat → Int32) (x : Int32) : Int32 := if inr x 0 3 = 0 then -2 else mnx x (mnl g 80 0 (-6, 0))
def m_abv (g : Nat → Int32) (f b : Nat) (z : Int32) : Int32 := if z = 0 then g (10 + 4 * (f * 20 + b) + 0) else if z = 1 then g (10 + 4 * (f * 20 + b) + 1) else if z = 2 then wl g (f * 20 + b) else if z = 3 then lo g f b else if z = 4 then lo g f b + wl g (f * 20 + b) else if z = 5 then g (10 + 4 * (f * 20 + b) + 3) else if z = 6 then m_tr g f b 0 else if z = 7 then m_tr g f b 1 else -2
def m_abl (g : Nat → Int32) (x y z : Int32) : Int32 := if ibk g x y = 0 then -1 else m_abv g x.toNatClampNeg y.toNatClampNeg z
theorem inr_f (x : Int32) : inr x 0 1 = isf x := by
  unfold inr isf
  by_cases h : x < 0
  · rw [if_pos h, if_pos h]
  · rw [if_neg h, if_neg h]
    obtain ⟨j, hj, rfl⟩ := nI_of h
    have e : (1 < nI j) ↔ ((2 : Int32) ≤ nI j) := ((nI_ltI (a := 1) (by decide) hj).trans (Nat.lt_iff_add_one_le)).trans (nI_leI (a := 2) (by decide) hj).symm
    simp only [e]
theorem inr_b {y : Int32} {n : Nat} (hn : n ≤ 20) : inr y 0 (nI n - 1) = if y < 0 then 0 else if nI n ≤ y then 0 else 1 := by
  unfold inr
  by_cases h : y < 0
  · rw [if_pos h, if_pos h]
  · rw [if_neg h, if_neg h]
    obtain ⟨j, hj, rfl⟩ := nI_of h
    rcases Nat.eq_zero_or_pos n with rfl | h0
    · rw [if_pos (show nI 0 - 1 < nI j by
        rw [Int32.lt_iff_toInt_lt, nI_toInt hj]
        have : (nI 0 - 1).toInt = -1 := by decide
        omega), if_pos (nI_le (by omega) hj)]
    · have e : nI n - 1 = nI (n - 1) := by
        have := nI_pred (n - 1)
        rw [show n - 1 + 1 = n by omega] at this
        exact this
      rw [e]
      have e2 : (nI (n - 1) < nI j) ↔ (nI n ≤ nI j) := by rw [nI_ltI (by omega) hj, nI_leI (by omega) hj]; omega
      simp only [e2]
theorem eo_1 {g : Nat → Int32} {f b w : Nat} (hf : f < 2) (hw : w < 2) : eo g f b w 1 = sr g f b w := by
  unfold eo sr
  rcases (show f = 0 ∨ f = 1 by omega) with rfl | rfl <;> rcases (show w = 0 ∨ w = 1 by omega) with rfl | rfl <;> rfl
theorem eo_0 {g : Nat → Int32} {f b w : Nat} (hf : f < 2) (hw : w < 2) : eo g f b w 0 = sr g f b (1 - w) := by
  unfold eo sr
  rcases (show f = 0 ∨ f = 1 by omega) with rfl | rfl <;> rcases (show w = 0 ∨ w = 1 by omega) with rfl | rfl <;> rfl
theorem gp_en (g : Nat → Int32) : en g 1 - en g 0 = gp g := by
  unfold en gp
  rw [if_neg (by decide), if_pos rfl]
  generalize ft g 0 (bn g 0) = a
  generalize ft g 1 (bn g 1) = b
  grind
theorem bn_tvm {g : Nat → Int32} {f : Nat} {x : Int32} (hf : f < 2) : bn (tvm g x) f = bn g f := by unfold tvm; rw [bn_up hf (by omega), bn_up hf (by omega)]
theorem BN_tvm {g : Nat → Int32} {x : Int32} (h : BN g) : BN (tvm g x) := BN_up (by omega) (BN_up (by omega) h)
theorem nar_isf (x : Int32) : narrow .boolean (.int (isf x)) = .int (isf x) := by
  unfold isf
  split
  · rfl
  · split <;> rfl
set_option maxHeartbeats 4000000 in
set_option maxRecDepth 100000 in
theorem c_M_in (l : Launch) (D : va_G) (ca : Nat → ClassId) (v a b : Int32) : RO l y_M_in b_M_in 3 (some .boolean) 0 0 D ca [.int v, .int a, .int b] [] (inr v a b) := by
  refine RO.mk (ty := .boolean) rfl rfl (Nat.le_of_ble_eq_true rfl) ?_
  intro p e s m args below meth c Q S hP hK
  obtain ⟨hx, hb, hml, hown, hts⟩ := id S
  intro hret ls hl0
  have hl : lv_has ls 3 [(0, .int v), (1, .int a), (2, .int b)] := hl0
  refine lv_iload_n hx hb d_M_in_0 rfl (lv_at hl 0 rfl) ?_
  refine lv_iload_n hx hb d_M_in_1 rfl (lv_at hl 1 rfl) ?_
  refine lv_icmp_lt (tgt := 14) hx hb d_M_in_2 (by decide) (fun c_2 => ?_) (fun c_2 => ?_)
  · refine lv_iconst (v := 0) hx hb d_M_in_14 (by decide) ?_
    exact hret _ _ _ d_M_in_15 rfl (by first | (simp only [inr, c_2, ↓reduceIte]; done) | (simp only [inr, c_2, ↓reduceIte]; rfl) | rfl)
  · refine lv_iload_n hx hb d_M_in_5 rfl (lv_at hl 0 rfl) ?_
    refine lv_iload_n hx hb d_M_in_6 rfl (lv_at hl 2 rfl) ?_
    refine lv_icmp_gt (tgt := 14) hx hb d_M_in_7 (by decide) (fun c_7 => ?_) (fun c_7 => ?_)
    · refine lv_iconst (v := 0) hx hb d_M_in_14 (by decide) ?_
      exact hret _ _ _ d_M_in_15 rfl (by first | (simp only [inr, c_2, c_7, ↓reduceIte]; done) | (simp only [inr, c_2, c_7, ↓reduceIte]; rfl) | rfl)
    · refine lv_iconst (v := 1) hx hb d_M_in_10 (by decide) ?_
      refine lv_goto (tgt := 15) hx hb d_M_in_11 (by decide) ?_
      exact hret _ _ _ d_M_in_15 rfl (by first | (simp only [inr, c_2, c_7, ↓reduceIte]; done) | (simp only [inr, c_2, c_7, ↓reduceIte]; rfl) | rfl)
set_option maxHeartbeats 4000000 in
set_option maxRecDepth 100000 in
theorem c_M_isFile (l : Launch) (D : va_G) (ca : Nat → ClassId) (x : Int32) : RO l y_M_isFile b_M_isFile 1 (some .boolean) 1 22 D ca [.int x] [] (isf x) := by
  refine RO.mk (ty := .boolean) rfl rfl (Nat.le_of_ble_eq_true rfl) ?_
  intro p e s m args below meth c Q S hP hK
  obtain ⟨hx, hb, hml, hown, hts⟩ := id S
  intro hret ls hl0
  have hl : lv_has ls 1 [(0, .int x)] := hl0
  refine lv_iload_n hx hb d_M_isFile_0 rfl (lv_at hl 0 rfl) ?_
  refine lv_iconst (v := 0) hx hb d_M_isFile_1 (by decide) ?_
  refine lv_iconst (v := 1) hx hb d_M_isFile_2 (by decide) ?_
  refine RO.callS S (c_M_in l D ca  x 0 1 ) k_M_26 hK rfl rfl hl.1 ⟨Nat.le_of_ble_eq_true rfl, Nat.le_of_ble_eq_true rfl⟩ ⟨Nat.zero_le _, Nat.zero_le _⟩ (Nat.le_of_ble_eq_true rfl) d_M_isFile_3 ?_
  refine lv_tope (z := isf x) (inr_f x) ?_
  exact hret _ _ _ d_M_isFile_6 (nar_isf x) (by first | (simp only [↓reduceIte]; done) | (simp only [↓reduceIte]; rfl) | rfl)
set_option maxHeartbeats 4000000 in
set_option maxRecDepth 100000 in
theorem c_M_of (l : Launch) (D : va_G) (ca : Nat → ClassId) (f b k : Nat) : RO l y_M_of b_M_of 3 (some .int) 0 0 D ca [.int (nI f), .int (nI b), .int (nI k)] [] (nI (10 + 4 * (f * 20 + b) + k)) := by
  refine RO.mk (ty := .int) rfl rfl (Nat.le_of_ble_eq_true rfl) ?_
  intro p e s m args below meth c Q S hP hK
  obtain ⟨hx, hb, hml, hown, hts⟩ := id S
  intro hret ls hl0
  have hl : lv_has ls 3 [(0, .int (nI f)), (1, .int (nI b)), (2, .int (nI k))] := hl0
  refine lv_bipush (v := 10) hx hb d_M_of_0 (by decide) ?_
  refine lv_bipush (v := 80) hx hb d_M_of_2 (by decide) ?_
  refine lv_iload_n hx hb d_M_of_4 rfl (lv_at hl 0 rfl) ?_
  refine lv_imul hx hb d_M_of_5 ?_
  refine lv_tope (z := nI (80 * f)) (pk_mul 80 f) ?_
  refine lv_iadd hx hb d_M_of_6 ?_
  refine lv_tope (z := nI (10 + (80 * f))) (nI_add 10 (80 * f)) ?_
  refine lv_iconst (v := 4) hx hb d_M_of_7 (by decide) ?_
  refine lv_iload_n hx hb d_M_of_8 rfl (lv_at hl 1 rfl) ?_
  refine lv_imul hx hb d_M_of_9 ?_
  refine lv_tope (z := nI (4 * b)) (pk_mul 4 b) ?_
  refine lv_iadd hx hb d_M_of_10 ?_
  refine lv_tope (z := nI ((10 + (80 * f)) + (4 * b))) (nI_add (10 + (80 * f)) (4 * b)) ?_
  refine lv_iload_n hx hb d_M_of_11 rfl (lv_at hl 2 rfl) ?_
  refine lv_iadd hx hb d_M_of_12 ?_
  refine lv_tope (z := nI (((10 + (80 * f)) + (4 * b)) + k)) (nI_add ((10 + (80 * f)) + (4 * b)) k) ?_
  exact hret _ _ _ d_M_of_13 rfl (congrArg nI (by omega))
set_option maxHeartbeats 4000000 in
set_option maxRecDepth 100000 in
theorem c_M_apart (l : Launch) (D : va_G) (ca : Nat → ClassId) (a b : Int32) : RO l y_M_apart b_M_apart 2 (some .int) 0 0 D ca [.int a, .int b] [] (ap a b) := by
  refine RO.mk (ty := .int) rfl rfl (Nat.le_of_ble_eq_true rfl) ?_
  intro p e s m args below meth c Q S hP hK
  obtain ⟨hx, hb, hml, hown, hts⟩ := id S
  intro hret ls hl0
  have hl : lv_has ls 2 [(0, .int a), (1, .int b)] := hl0
  refine lv_iload_n hx hb d_M_apart_0 rfl (lv_at hl 0 rfl) ?_
  refine lv_iload_n hx hb d_M_apart_1 rfl (lv_at hl 1 rfl) ?_
  refine lv_icmp_le (tgt := 11) hx hb d_M_apart_2 (by decide) (fun c_2 => ?_) (fun c_2 => ?_)
  · refine lv_iload_n hx hb d_M_apart_11 rfl (lv_at hl 1 rfl) ?_
    refine lv_iload_n hx hb d_M_apart_12 rfl (lv_at hl 0 rfl) ?_
    refine lv_isub hx hb d_M_apart_13 ?_
    exact hret _ _ _ d_M_apart_14 rfl (by first | (simp only [ap, c_2, ↓reduceIte]; done) | (simp only [ap, c_2, ↓reduceIte]; rfl) | rfl)
  · refine lv_iload_n hx hb d_M_apart_5 rfl (lv_at hl 0 rfl) ?_
    refine lv_iload_n hx hb d_M_apart_6 rfl (lv_at hl 1 rfl) ?_
    refine lv_isub hx hb d_M_apart_7 ?_
    refine lv_goto (tgt := 14) hx hb d_M_apart_8 (by decide) ?_
    exact hret _ _ _ d_M_apart_14 rfl (by first | (simp only [ap, c_2, ↓reduceIte]; done) | (simp only [ap, c_2, ↓reduceIte]; rfl) | rfl)
set_option maxHeartbeats 4000000 in
set_option maxRecDepth 100000 in
theorem c_M_isBlock (l : Launch) (D : va_G) (ca : Nat → ClassId) (o sa : Nat) (fs : List Value) (g : Nat → Int32) (x y : Int32) (hB : BN g): RO l y_M_isBlock b_M_isBlock 3 (some .boolean) 2 42 D ca [.ref o, .int x, .int y] (mw ca o sa fs g) (ibk g x y) := by
  refine RO.mk (ty := .boolean) rfl rfl (Nat.le_of_ble_eq_true rfl) ?_
  intro p e s m args below meth c Q S hP hK
  obtain ⟨hx, hb, hml, hown, hts⟩ := id S
  intro hret ls hl0
  have hl : lv_has ls 3 [(0, .ref o), (1, .int x), (2, .int y)] := hl0
  refine lv_iload_n hx hb d_M_isBlock_0 rfl (lv_at hl 1 rfl) ?_
  refine RO.callS S (c_M_isFile l D ca  x ) k_M_30 hK rfl rfl hl.1 ⟨Nat.le_of_ble_eq_true rfl, Nat.le_of_ble_eq_true rfl⟩ ⟨Nat.zero_le _, Nat.zero_le _⟩ (Nat.le_of_ble_eq_true rfl) d_M_isBlock_1 ?_
  refine lv_if_eq (tgt := 30) hx hb d_M_isBlock_4 (by decide) (fun c_4 => ?_) (fun c_4 => ?_)
  · refine lv_iconst (v := 0) hx hb d_M_isBlock_30 (by decide) ?_
    exact hret _ _ _ d_M_isBlock_31 rfl (by first | (simp only [ibk, c_4, ↓reduceIte]; done) | (simp only [ibk, c_4, ↓reduceIte]; rfl) | rfl)
  · obtain ⟨f, hf, rfl⟩ := isf_of c_4
    have hcl : (nI f).toNatClampNeg = f := nI_clamp (by omega)
    have hn20 := (hB f hf).2
    refine lv_iload_n hx hb d_M_isBlock_7 rfl (lv_at hl 2 rfl) ?_
    refine lv_iconst (v := 0) hx hb d_M_isBlock_8 (by decide) ?_
    refine lv_aload_n hx hb d_M_isBlock_9 rfl (lv_at hl 0 rfl) ?_
    refine f_get S cls_M hK hP 0 rfl 0 (by decide) fl_M_s rfl rfl d_M_isBlock_10 ?_
    refine lv_bipush (v := 8) hx hb d_M_isBlock_13 (by decide) ?_
    refine lv_iload_n hx hb d_M_isBlock_15 rfl (lv_at hl 1 rfl) ?_
    refine lv_iadd hx hb d_M_isBlock_16 ?_
    refine lv_tope (z := nI (8 + f)) (nI_add 8 f) ?_
    refine M_ld S hK hP (r := 8 + f) (by omega) rfl d_M_isBlock_17 ?_
    refine lv_tope (z := nI (bn g f)) ((hB f hf).1) ?_
    refine lv_iconst (v := 1) hx hb d_M_isBlock_18 (by decide) ?_
    refine lv_isub hx hb d_M_isBlock_19 ?_
    refine RO.callS S (c_M_in l D ca  y 0 ((nI (bn g f)) - 1) ) k_M_26 hK rfl rfl hl.1 ⟨Nat.le_of_ble_eq_true rfl, Nat.le_of_ble_eq_true rfl⟩ ⟨Nat.zero_le _, Nat.zero_le _⟩ (Nat.le_of_ble_eq_true rfl) d_M_isBlock_20 ?_
    obtain ⟨z, hz⟩ : ∃ z, z = inr y 0 (nI (bn g f) - 1) := ⟨_, rfl⟩
    have hz2 : z = if y < 0 then 0 else if nI (bn g f) ≤ y then 0 else 1 := by rw [hz]; exact inr_b hn20
    refine lv_tope (z := z) (hz.symm) ?_
    refine lv_if_eq (tgt := 30) hx hb d_M_isBlock_23 (by decide) (fun c_23 => ?_) (fun c_23 => ?_)
    · refine lv_iconst (v := 0) hx hb d_M_isBlock_30 (by decide) ?_
      exact hret _ _ _ d_M_isBlock_31 rfl (by simp only [ibk, c_4, hcl, ↓reduceIte, ← hz2]; first | exact c_23.symm | (rcases (show z = 0 ∨ z = 1 by rw [hz2]; split; exact Or.inl rfl; split; exact Or.inl rfl; exact Or.inr rfl) with q | q; exact absurd q c_23; exact q.symm))
    · refine lv_iconst (v := 1) hx hb d_M_isBlock_26 (by decide) ?_
      refine lv_goto (tgt := 31) hx hb d_M_isBlock_27 (by decide) ?_
      exact hret _ _ _ d_M_isBlock_31 rfl (by simp only [ibk, c_4, hcl, ↓reduceIte, ← hz2]; first | exact c_23.symm | (rcases (show z = 0 ∨ z = 1 by rw [hz2]; split; exact Or.inl rfl; split; exact Or.inl rfl; exact Or.inr rfl) with q | q; exact absurd q c_23; exact q.symm))
set_option maxHeartbeats 4000000 in
set_option maxRecDepth 100000 in
theorem c_M_whole (l : Launch) (D : va_G) (ca : Nat → ClassId) (o sa : Nat) (fs : List Value) (g : Nat → Int32) (f b : Nat) (hf : f < 2) (hb20 : b < 20): RO l y_M_whole b_M_whole 3 (some .int) 1 22 D ca [.ref o, .int (nI f), .int (nI b)] (mw ca o sa fs g) (wl g (f * 20 + b)) := by
  refine RO.mk (ty := .int) rfl rfl (Nat.le_of_ble_eq_true rfl) ?_
  intro p e s m args below meth c Q S hP hK
  obtain ⟨hx, hb, hml, hown, hts⟩ := id S
  intro hret ls hl0
  have hl : lv_has ls 3 [(0, .ref o), (1, .int (nI f)), (2, .int (nI b))] := hl0
  refine lv_aload_n hx hb d_M_whole_0 rfl (lv_at hl 0 rfl) ?_
  refine f_get S cls_M hK hP 0 rfl 0 (by decide) fl_M_s rfl rfl d_M_whole_1 ?_
  refine lv_iload_n hx hb d_M_whole_4 rfl (lv_at hl 1 rfl) ?_
  refine lv_iload_n hx hb d_M_whole_5 rfl (lv_at hl 2 rfl) ?_
  refine lv_iconst (v := 0) hx hb d_M_whole_6 (by decide) ?_
  refine RO.callS S (c_M_of l D ca  f b 0 ) k_M_38 hK rfl rfl hl.1 ⟨Nat.le_of_ble_eq_true rfl, Nat.le_of_ble_eq_true rfl⟩ ⟨Nat.zero_le _, Nat.zero_le _⟩ (Nat.le_of_ble_eq_true rfl) d_M_whole_7 ?_
  refine M_ld S hK hP (r := 10 + 4 * (f * 20 + b) + 0) (by omega) rfl d_M_whole_10 ?_
  refine lv_iconst (v := 2) hx hb d_M_whole_11 (by decide) ?_
  refine lv_aload_n hx hb d_M_whole_12 rfl (lv_at hl 0 rfl) ?_
  refine f_get S cls_M hK hP 0 rfl 0 (by decide) fl_M_s rfl rfl d_M_whole_13 ?_
  refine lv_iload_n hx hb d_M_whole_16 rfl (lv_at hl 1 rfl) ?_
  refine lv_iload_n hx hb d_M_whole_17 rfl (lv_at hl 2 rfl) ?_
  refine lv_iconst (v := 2) hx hb d_M_whole_18 (by decide) ?_
  refine RO.callS S (c_M_of l D ca  f b 2 ) k_M_38 hK rfl rfl hl.1 ⟨Nat.le_of_ble_eq_true rfl, Nat.le_of_ble_eq_true rfl⟩ ⟨Nat.zero_le _, Nat.zero_le _⟩ (Nat.le_of_ble_eq_true rfl) d_M_whole_19 ?_
  refine M_ld S hK hP (r := 10 + 4 * (f * 20 + b) + 2) (by omega) rfl d_M_whole_22 ?_
  refine lv_imul hx hb d_M_whole_23 ?_
  refine lv_iadd hx hb d_M_whole_24 ?_
  exact hret _ _ _ d_M_whole_25 rfl (by first | (simp only [wl, ↓reduceIte]; done) | (simp only [wl, ↓reduceIte]; rfl) | rfl)
set_option maxHeartbeats 4000000 in
set_option maxRecDepth 100000 in
theorem c_M_feet (l : Launch) (D : va_G) (ca : Nat → ClassId) (o sa : Nat) (fs : List Value) (g : Nat → Int32) (f n : Nat) (hf : f < 2) (hn : n ≤ 20): RO l y_M_feet b_M_feet 5 (some .int) 2 44 D ca [.ref o, .int (nI f), .int (nI n)] (mw ca o sa fs g) (ft g f n) := by
  refine RO.mk (ty := .int) rfl rfl (Nat.le_of_ble_eq_true rfl) ?_
  intro p e s m args below meth c Q S hP hK
  obtain ⟨hx, hb, hml, hown, hts⟩ := id S
  intro hret ls hl0
  have hl : lv_has ls 5 [(0, .ref o), (1, .int (nI f)), (2, .int (nI n))] := hl0
  refine lv_iconst (v := 0) hx hb d_M_feet_0 (by decide) ?_
  refine lv_istore_n (lv' := [(3, .int 0), (0, .ref o), (1, .int (nI f)), (2, .int (nI n))]) hx hb d_M_feet_1 rfl hl (by decide) rfl (fun ls hl => ?_)
  refine lv_iconst (v := 0) hx hb d_M_feet_2 (by decide) ?_
  refine lv_istore (lv' := [(4, .int 0), (3, .int 0), (0, .ref o), (1, .int (nI f)), (2, .int (nI n))]) hx hb d_M_feet_3 hl (by decide) rfl (fun ls hl => ?_)
  suffices lp : ∀ (k i : Nat), n - i < k → i ≤ n → ∀ ls : Array Slot, lv_has ls 5 [(3, .int (ft g f i)), (4, .int (nI i)), (0, .ref o), (1, .int (nI f)), (2, .int (nI n))] → W p l e (rm 2 44 0 0) s m args below meth c s.heap [] 0 0 Q (F0 m 5 ls []) from lp (n + 1) 0 (by omega) (by omega) _ (lv_sub hl [1, 0, 2, 3, 4] rfl)
  intro k
  induction k with
  | zero => intro i hi; omega
  | succ k ih =>
    intro i hi hin ls hl
    refine lv_iload hx hb d_M_feet_5 (lv_at hl 1 rfl) ?_
    refine lv_iload_n hx hb d_M_feet_7 rfl (lv_at hl 4 rfl) ?_
    refine lv_icmp_ge (tgt := 27) hx hb d_M_feet_8 (by decide) (fun c_8 => ?_) (fun c_8 => ?_)
    · have e_8 : n ≤ i := le_of_nI (by omega) (by omega) c_8
      obtain rfl : i = n := by omega
      refine lv_iload_n hx hb d_M_feet_27 rfl (lv_at hl 0 rfl) ?_
      exact hret _ _ _ d_M_feet_28 rfl (by first | (simp only [ft, c_8, ↓reduceIte]; done) | (simp only [ft, c_8, ↓reduceIte]; rfl) | rfl)
    · have e_8 : i < n := nle_lt (by omega) (by omega) c_8
      refine lv_iload_n hx hb d_M_feet_11 rfl (lv_at hl 0 rfl) ?_
      refine lv_aload_n hx hb d_M_feet_12 rfl (lv_at hl 2 rfl) ?_
      refine lv_iload_n hx hb d_M_feet_13 rfl (lv_at hl 3 rfl) ?_
      refine lv_iload hx hb d_M_feet_14 (lv_at hl 1 rfl) ?_
      refine M_ro S (c_M_whole l D ca o sa fs g f i (by omega) (by omega)) k_M_42 rfl hP hK rfl rfl hl.1 ⟨Nat.le_of_ble_eq_true rfl, Nat.le_of_ble_eq_true rfl⟩ ⟨Nat.zero_le _, Nat.zero_le _⟩ (Nat.le_of_ble_eq_true rfl) d_M_feet_16 ?_
      refine lv_iadd hx hb d_M_feet_19 ?_
      refine lv_istore_n (lv' := [(3, .int (ft g f (i + 1))), (4, .int (nI i)), (0, .ref o), (1, .int (nI f)), (2, .int (nI n))]) hx hb d_M_feet_20 rfl hl (by decide) rfl (fun ls hl => ?_)
      refine lv_iinc (v := nI (i + 1)) (lv' := [(4, .int (nI (i + 1))), (3, .int (ft g f (i + 1))), (0, .ref o), (1, .int (nI f)), (2, .int (nI n))]) hx hb d_M_feet_21 hl (k := 1) rfl (nI_1 i) (by decide) rfl (fun ls hl => ?_)
      refine lv_goto (tgt := 5) hx hb d_M_feet_24 (by decide) ?_
      exact ih (i + 1) (by omega) (by omega) _ (lv_sub hl [1, 0, 2, 3, 4] rfl)
set_option maxHeartbeats 4000000 in
set_option maxRecDepth 100000 in
theorem c_M_allFeet (l : Launch) (D : va_G) (ca : Nat → ClassId) (o sa : Nat) (fs : List Value) (g : Nat → Int32) (f : Nat) (hB : BN g) (hf : f < 2): RO l y_M_allFeet b_M_allFeet 2 (some .int) 3 68 D ca [.ref o, .int (nI f)] (mw ca o sa fs g) (ft g f (bn g f)) := by
  refine RO.mk (ty := .int) rfl rfl (Nat.le_of_ble_eq_true rfl) ?_
  intro p e s m args below meth c Q S hP hK
  obtain ⟨hx, hb, hml, hown, hts⟩ := id S
  intro hret ls hl0
  have hl : lv_has ls 2 [(0, .ref o), (1, .int (nI f))] := hl0
  refine lv_aload_n hx hb d_M_allFeet_0 rfl (lv_at hl 0 rfl) ?_
  refine lv_iload_n hx hb d_M_allFeet_1 rfl (lv_at hl 1 rfl) ?_
  refine lv_aload_n hx hb d_M_allFeet_2 rfl (lv_at hl 0 rfl) ?_
  refine f_get S cls_M hK hP 0 rfl 0 (by decide) fl_M_s rfl rfl d_M_allFeet_3 ?_
  refine lv_bipush (v := 8) hx hb d_M_allFeet_6 (by decide) ?_
  refine lv_iload_n hx hb d_M_allFeet_8 rfl (lv_at hl 1 rfl) ?_
  refine lv_iadd hx hb d_M_allFeet_9 ?_
  refine lv_tope (z := nI (8 + f)) (nI_add 8 f) ?_
  refine M_ld S hK hP (r := 8 + f) (by omega) rfl d_M_allFeet_10 ?_
  refine lv_tope (z := nI (bn g f)) ((hB f hf).1) ?_
  have hn := (hB f hf).2
  refine M_ro S (c_M_feet l D ca o sa fs g f (bn g f) (by omega) (by omega)) k_M_46 rfl hP hK rfl rfl hl.1 ⟨Nat.le_of_ble_eq_true rfl, Nat.le_of_ble_eq_true rfl⟩ ⟨Nat.zero_le _, Nat.zero_le _⟩ (Nat.le_of_ble_eq_true rfl) d_M_allFeet_11 ?_
  exact hret _ _ _ d_M_allFeet_14 rfl (by first | (simp only [↓reduceIte]; done) | (simp only [↓reduceIte]; rfl) | rfl)
set_option maxHeartbeats 4000000 in
set_option maxRecDepth 100000 in
theorem c_M_end (l : Launch) (D : va_G) (ca : Nat → ClassId) (o sa : Nat) (fs : List Value) (g : Nat → Int32) (f : Nat) (hB : BN g) (hf : f < 2): RO l y_M_end b_M_end 2 (some .int) 4 89 D ca [.ref o, .int (nI f)] (mw ca o sa fs g) (en g f) := by
  refine RO.mk (ty := .int) rfl rfl (Nat.le_of_ble_eq_true rfl) ?_
  intro p e s m args below meth c Q S hP hK
  obtain ⟨hx, hb, hml, hown, hts⟩ := id S
  intro hret ls hl0
  have hl : lv_has ls 2 [(0, .ref o), (1, .int (nI f))] := hl0
  refine lv_iload_n hx hb d_M_end_0 rfl (lv_at hl 1 rfl) ?_
  refine lv_if_ne (tgt := 12) hx hb d_M_end_1 (by decide) (fun c_1 => ?_) (fun c_1 => ?_)
  · obtain rfl : f = 1 := by have := n0I c_1; omega
    refine lv_aload_n hx hb d_M_end_12 rfl (lv_at hl 0 rfl) ?_
    refine f_get S cls_M hK hP 0 rfl 0 (by decide) fl_M_s rfl rfl d_M_end_13 ?_
    refine lv_iconst (v := 0) hx hb d_M_end_16 (by decide) ?_
    refine M_ld S hK hP (r := 0) (by omega) rfl d_M_end_17 ?_
    refine lv_aload_n hx hb d_M_end_18 rfl (lv_at hl 0 rfl) ?_
    refine lv_iconst (v := 1) hx hb d_M_end_19 (by decide) ?_
    refine M_ro S (c_M_allFeet l D ca o sa fs g 1 hB (by omega)) k_M_49 rfl hP hK rfl rfl hl.1 ⟨Nat.le_of_ble_eq_true rfl, Nat.le_of_ble_eq_true rfl⟩ ⟨Nat.zero_le _, Nat.zero_le _⟩ (Nat.le_of_ble_eq_true rfl) d_M_end_20 ?_
    refine lv_isub hx hb d_M_end_23 ?_
    exact hret _ _ _ d_M_end_24 rfl (by first | (simp only [↓reduceIte]; done) | (simp only [↓reduceIte]; rfl) | rfl)
  · obtain rfl : f = 0 := nI0 (by omega) c_1
    refine lv_aload_n hx hb d_M_end_4 rfl (lv_at hl 0 rfl) ?_
    refine lv_iconst (v := 0) hx hb d_M_end_5 (by decide) ?_
    refine M_ro S (c_M_allFeet l D ca o sa fs g 0 hB (by omega)) k_M_49 rfl hP hK rfl rfl hl.1 ⟨Nat.le_of_ble_eq_true rfl, Nat.le_of_ble_eq_true rfl⟩ ⟨Nat.zero_le _, Nat.zero_le _⟩ (Nat.le_of_ble_eq_true rfl) d_M_end_6 ?_
    refine lv_goto (tgt := 24) hx hb d_M_end_9 (by decide) ?_
    exact hret _ _ _ d_M_end_24 rfl (by first | (simp only [↓reduceIte]; done) | (simp only [↓reduceIte]; rfl) | rfl)
set_option maxHeartbeats 4000000 in
set_option maxRecDepth 100000 in
theorem c_M_gap (l : Launch) (D : va_G) (ca : Nat → ClassId) (o sa : Nat) (fs : List Value) (g : Nat → Int32)  (hB : BN g): RO l y_M_gap b_M_gap 1 (some .int) 5 110 D ca [.ref o] (mw ca o sa fs g) (gp g) := by
  refine RO.mk (ty := .int) rfl rfl (Nat.le_of_ble_eq_true rfl) ?_
  intro p e s m args below meth c Q S hP hK
  obtain ⟨hx, hb, hml, hown, hts⟩ := id S
  intro hret ls hl0
  have hl : lv_has ls 1 [(0, .ref o)] := hl0
  refine lv_aload_n hx hb d_M_gap_0 rfl (lv_at hl 0 rfl) ?_
  refine lv_iconst (v := 1) hx hb d_M_gap_1 (by decide) ?_
  refine M_ro S (c_M_end l D ca o sa fs g 1 hB (by omega)) k_M_53 rfl hP hK rfl rfl hl.1 ⟨Nat.le_of_ble_eq_true rfl, Nat.le_of_ble_eq_true rfl⟩ ⟨Nat.zero_le _, Nat.zero_le _⟩ (Nat.le_of_ble_eq_true rfl) d_M_gap_2 ?_
  refine lv_aload_n hx hb d_M_gap_5 rfl (lv_at hl 0 rfl) ?_
  refine lv_iconst (v := 0) hx hb d_M_gap_6 (by decide) ?_
  refine M_ro S (c_M_end l D ca o sa fs g 0 hB (by omega)) k_M_53 rfl hP hK rfl rfl hl.1 ⟨Nat.le_of_ble_eq_true rfl, Nat.le_of_ble_eq_true rfl⟩ ⟨Nat.zero_le _, Nat.zero_le _⟩ (Nat.le_of_ble_eq_true rfl) d_M_gap_7 ?_
  refine lv_isub hx hb d_M_gap_10 ?_
  refine lv_tope (z := gp g) (gp_en g) ?_
  exact hret _ _ _ d_M_gap_11 rfl (by first | (simp only [↓reduceIte]; done) | (simp only [↓reduceIte]; rfl) | rfl)
set_option maxHeartbeats 4000000 in
set_option maxRecDepth 100000 in
theorem c_M_lower (l : Launch) (D : va_G) (ca : Nat → ClassId) (o sa : Nat) (fs : List Value) (g : Nat → Int32) (f b : Nat) (hf : f < 2) (hb20 : b < 20): RO l y_M_lower b_M_lower 3 (some .int) 3 68 D ca [.ref o, .int (nI f), .int (nI b)] (mw ca o sa fs g) (lo g f b) := by
  refine RO.mk (ty := .int) rfl rfl (Nat.le_of_ble_eq_true rfl) ?_
  intro p e s m args below meth c Q S hP hK
  obtain ⟨hx, hb, hml, hown, hts⟩ := id S
  intro hret ls hl0
  have hl : lv_has ls 3 [(0, .ref o), (1, .int (nI f)), (2, .int (nI b))] := hl0
  refine lv_iload_n hx hb d_M_lower_0 rfl (lv_at hl 1 rfl) ?_
  refine lv_if_ne (tgt := 13) hx hb d_M_lower_1 (by decide) (fun c_1 => ?_) (fun c_1 => ?_)
  · obtain rfl : f = 1 := by have := n0I c_1; omega
    refine lv_aload_n hx hb d_M_lower_13 rfl (lv_at hl 0 rfl) ?_
    refine f_get S cls_M hK hP 0 rfl 0 (by decide) fl_M_s rfl rfl d_M_lower_14 ?_
    refine lv_iconst (v := 0) hx hb d_M_lower_17 (by decide) ?_
    refine M_ld S hK hP (r := 0) (by omega) rfl d_M_lower_18 ?_
    refine lv_aload_n hx hb d_M_lower_19 rfl (lv_at hl 0 rfl) ?_
    refine lv_iconst (v := 1) hx hb d_M_lower_20 (by decide) ?_
    refine lv_iload_n hx hb d_M_lower_21 rfl (lv_at hl 2 rfl) ?_
    refine lv_iconst (v := 1) hx hb d_M_lower_22 (by decide) ?_
    refine lv_iadd hx hb d_M_lower_23 ?_
    refine lv_tope (z := nI (b + 1)) (nI_add b 1) ?_
    refine M_ro S (c_M_feet l D ca o sa fs g 1 (b + 1) (by omega) (by omega)) k_M_46 rfl hP hK rfl rfl hl.1 ⟨Nat.le_of_ble_eq_true rfl, Nat.le_of_ble_eq_true rfl⟩ ⟨Nat.zero_le _, Nat.zero_le _⟩ (Nat.le_of_ble_eq_true rfl) d_M_lower_24 ?_
    refine lv_isub hx hb d_M_lower_27 ?_
    exact hret _ _ _ d_M_lower_28 rfl (by first | (simp only [↓reduceIte]; done) | (simp only [↓reduceIte]; rfl) | rfl)
  · obtain rfl : f = 0 := nI0 (by omega) c_1
    refine lv_aload_n hx hb d_M_lower_4 rfl (lv_at hl 0 rfl) ?_
    refine lv_iconst (v := 0) hx hb d_M_lower_5 (by decide) ?_
    refine lv_iload_n hx hb d_M_lower_6 rfl (lv_at hl 2 rfl) ?_
    refine M_ro S (c_M_feet l D ca o sa fs g 0 b (by omega) (by omega)) k_M_46 rfl hP hK rfl rfl hl.1 ⟨Nat.le_of_ble_eq_true rfl, Nat.le_of_ble_eq_true rfl⟩ ⟨Nat.zero_le _, Nat.zero_le _⟩ (Nat.le_of_ble_eq_true rfl) d_M_lower_7 ?_
    refine lv_goto (tgt := 28) hx hb d_M_lower_10 (by decide) ?_
    exact hret _ _ _ d_M_lower_28 rfl (by first | (simp only [↓reduceIte]; done) | (simp only [↓reduceIte]; rfl) | rfl)
set_option maxHeartbeats 4000000 in
set_option maxRecDepth 100000 in
theorem c_M_upper (l : Launch) (D : va_G) (ca : Nat → ClassId) (o sa : Nat) (fs : List Value) (g : Nat → Int32) (f b : Nat) (hf : f < 2) (hb20 : b < 20): RO l y_M_upper b_M_upper 3 (some .int) 4 90 D ca [.ref o, .int (nI f), .int (nI b)] (mw ca o sa fs g) (lo g f b + wl g (f * 20 + b)) := by
  refine RO.mk (ty := .int) rfl rfl (Nat.le_of_ble_eq_true rfl) ?_
  intro p e s m args below meth c Q S hP hK
  obtain ⟨hx, hb, hml, hown, hts⟩ := id S
  intro hret ls hl0
  have hl : lv_has ls 3 [(0, .ref o), (1, .int (nI f)), (2, .int (nI b))] := hl0
  refine lv_aload_n hx hb d_M_upper_0 rfl (lv_at hl 0 rfl) ?_
  refine lv_iload_n hx hb d_M_upper_1 rfl (lv_at hl 1 rfl) ?_
  refine lv_iload_n hx hb d_M_upper_2 rfl (lv_at hl 2 rfl) ?_
  refine M_ro S (c_M_lower l D ca o sa fs g f b (by omega) (by omega)) k_M_56 rfl hP hK rfl rfl hl.1 ⟨Nat.le_of_ble_eq_true rfl, Nat.le_of_ble_eq_true rfl⟩ ⟨Nat.zero_le _, Nat.zero_le _⟩ (Nat.le_of_ble_eq_true rfl) d_M_upper_3 ?_
  refine lv_aload_n hx hb d_M_upper_6 rfl (lv_at hl 0 rfl) ?_
  refine lv_iload_n hx hb d_M_upper_7 rfl (lv_at hl 1 rfl) ?_
  refine lv_iload_n hx hb d_M_upper_8 rfl (lv_at hl 2 rfl) ?_
  refine M_ro S (c_M_whole l D ca o sa fs g f b (by omega) (by omega)) k_M_42 rfl hP hK rfl rfl hl.1 ⟨Nat.le_of_ble_eq_true rfl, Nat.le_of_ble_eq_true rfl⟩ ⟨Nat.zero_le _, Nat.zero_le _⟩ (Nat.le_of_ble_eq_true rfl) d_M_upper_9 ?_
  refine lv_iadd hx hb d_M_upper_12 ?_
  exact hret _ _ _ d_M_upper_13 rfl (by first | (simp only [↓reduceIte]; done) | (simp only [↓reduceIte]; rfl) | rfl)
set_option maxHeartbeats 4000000 in
set_option maxRecDepth 100000 in
theorem c_M_travel (l : Launch) (D : va_G) (ca : Nat → ClassId) (o sa : Nat) (fs : List Value) (g : Nat → Int32) (x : Int32) : MV l y_M_travel b_M_travel 2 1 21 D ca [.ref o, .int x] (mw ca o sa fs g) (mw ca o sa fs (tvm g x)) := by
  refine MV.mk rfl (Nat.le_of_ble_eq_true rfl) ?_
  intro p e s m args below meth c Q A S hA hP hD hK
  obtain ⟨hx, hb, hml, hown, hts⟩ := id S
  intro hret ls hl0 hS
  have hl : lv_has ls 2 [(0, .ref o), (1, .int x)] := hl0
  refine lv_aload_n hx hb d_M_travel_0 rfl (lv_at hl 0 rfl) ?_
  refine f_get S cls_M hK hP 0 rfl 0 (by decide) fl_M_s rfl rfl d_M_travel_1 ?_
  refine lv_bipush (v := 6) hx hb d_M_travel_4 (by decide) ?_
  refine lv_aload_n hx hb d_M_travel_6 rfl (lv_at hl 0 rfl) ?_
  refine f_get S cls_M hK hP 0 rfl 0 (by decide) fl_M_s rfl rfl d_M_travel_7 ?_
  refine lv_bipush (v := 6) hx hb d_M_travel_10 (by decide) ?_
  refine M_ld S hK hP (r := 6) (by omega) rfl d_M_travel_12 ?_
  refine lv_aload_n hx hb d_M_travel_13 rfl (lv_at hl 0 rfl) ?_
  refine f_get S cls_M hK hP 0 rfl 0 (by decide) fl_M_s rfl rfl d_M_travel_14 ?_
  refine lv_iconst (v := 3) hx hb d_M_travel_17 (by decide) ?_
  refine M_ld S hK hP (r := 3) (by omega) rfl d_M_travel_18 ?_
  refine lv_iload_n hx hb d_M_travel_19 rfl (lv_at hl 1 rfl) ?_
  refine RO.callS S (c_M_apart l D ca  (g 3) x ) k_M_59 hK rfl rfl hl.1 ⟨Nat.le_of_ble_eq_true rfl, Nat.le_of_ble_eq_true rfl⟩ ⟨Nat.zero_le _, Nat.zero_le _⟩ (Nat.le_of_ble_eq_true rfl) d_M_travel_20 ?_
  refine lv_iadd hx hb d_M_travel_23 ?_
  refine lv_ldc (v := 1000000000) hx hb hown (hts _ ct_M_62) d_M_travel_24 ?_
  refine lv_irem hx hb d_M_travel_26 (by decide) ?_
  refine M_st S hK hP hD hS (r := 6) (by omega) rfl d_M_travel_27 (fun H locs hP hD hS => ?_)
  obtain ⟨g1, hg1⟩ : ∃ z : Nat → Int32, z = upd g 6 (((g 6) + (ap (g 3) x)) - ((g 6) + (ap (g 3) x)) / 1000000000 * 1000000000) := ⟨_, rfl⟩
  rw [← hg1] at hP hD
  refine lv_aload_n hx hb d_M_travel_28 rfl (lv_at hl 0 rfl) ?_
  refine f_get S cls_M hK hP 0 rfl 0 (by decide) fl_M_s rfl rfl d_M_travel_29 ?_
  refine lv_iconst (v := 3) hx hb d_M_travel_32 (by decide) ?_
  refine lv_iload_n hx hb d_M_travel_33 rfl (lv_at hl 1 rfl) ?_
  refine M_st S hK hP hD hS (r := 3) (by omega) rfl d_M_travel_34 (fun H locs hP hD hS => ?_)
  obtain ⟨g2, hg2⟩ : ∃ z : Nat → Int32, z = upd g1 3 x := ⟨_, rfl⟩
  rw [← hg2] at hP hD
  exact hret _ _ _ _ _ d_M_travel_35 (by subst hg1 hg2; first | (simp only [tvm, rem9, ↓reduceIte]; done) | (simp only [tvm, rem9, ↓reduceIte]; rfl) | rfl) hP hD hS
set_option maxHeartbeats 4000000 in
set_option maxRecDepth 100000 in
theorem c_M_endOf (l : Launch) (D : va_G) (ca : Nat → ClassId) (o sa : Nat) (fs : List Value) (g : Nat → Int32) (f b w q : Nat) (hf : f < 2) (hb20 : b < 20) (hw : w < 2) (hq : q < 2): RO l y_M_endOf b_M_endOf 6 (some .int) 5 112 D ca [.ref o, .int (nI f), .int (nI b), .int (nI w), .int (nI q)] (mw ca o sa fs g) (eo g f b w q) := by
  refine RO.mk (ty := .int) rfl rfl (Nat.le_of_ble_eq_true rfl) ?_
  intro p e s m args below meth c Q S hP hK
  obtain ⟨hx, hb, hml, hown, hts⟩ := id S
  intro hret ls hl0
  have hl : lv_has ls 6 [(0, .ref o), (1, .int (nI f)), (2, .int (nI b)), (3, .int (nI w)), (4, .int (nI q))] := hl0
  refine lv_iload_n hx hb d_M_endOf_0 rfl (lv_at hl 1 rfl) ?_
  refine lv_iload_n hx hb d_M_endOf_1 rfl (lv_at hl 3 rfl) ?_
  refine lv_iadd hx hb d_M_endOf_2 ?_
  refine lv_tope (z := nI (f + w)) (nI_add f w) ?_
  refine lv_iconst (v := 2) hx hb d_M_endOf_3 (by decide) ?_
  refine lv_irem hx hb d_M_endOf_4 (by decide) ?_
  refine lv_tope (z := nI ((f + w) % 2)) (pk_rem (by omega) (by decide) (by decide)) ?_
  refine lv_if_ne (tgt := 12) hx hb d_M_endOf_5 (by decide) (fun c_5 => ?_) (fun c_5 => ?_)
  · have e_5 : ¬ (f + w) % 2 = 0 := n0I c_5
    refine lv_iconst (v := 0) hx hb d_M_endOf_12 (by decide) ?_
    refine lv_iload hx hb d_M_endOf_13 (lv_at hl 4 rfl) ?_
    refine lv_icmp_ne (tgt := 22) hx hb d_M_endOf_15 (by decide) (fun c_15 => ?_) (fun c_15 => ?_)
    · refine lv_iconst (v := 0) hx hb d_M_endOf_22 (by decide) ?_
      refine lv_istore (lv' := [(5, .int 0), (0, .ref o), (1, .int (nI f)), (2, .int (nI b)), (3, .int (nI w)), (4, .int (nI q))]) hx hb d_M_endOf_23 hl (by decide) rfl (fun ls hl => ?_)
      refine lv_iload hx hb d_M_endOf_25 (lv_at hl 0 rfl) ?_
      refine lv_if_eq (tgt := 39) hx hb d_M_endOf_27 (by decide) (fun _ => ?_) (fun q => absurd (by decide) q)
      refine lv_aload_n hx hb d_M_endOf_39 rfl (lv_at hl 1 rfl) ?_
      refine lv_iload_n hx hb d_M_endOf_40 rfl (lv_at hl 2 rfl) ?_
      refine lv_iload_n hx hb d_M_endOf_41 rfl (lv_at hl 3 rfl) ?_
      refine M_ro S (c_M_upper l D ca o sa fs g f b (by omega) (by omega)) k_M_63 rfl hP hK rfl rfl hl.1 ⟨Nat.le_of_ble_eq_true rfl, Nat.le_of_ble_eq_true rfl⟩ ⟨Nat.zero_le _, Nat.zero_le _⟩ (Nat.le_of_ble_eq_true rfl) d_M_endOf_42 ?_
      exact hret _ _ _ d_M_endOf_45 rfl (by first | (simp only [eo, c_5, e_5, c_15, ↓reduceIte]; done) | (simp only [eo, c_5, e_5, c_15, ↓reduceIte]; rfl) | rfl)
    · refine lv_iconst (v := 1) hx hb d_M_endOf_18 (by decide) ?_
      refine lv_goto (tgt := 23) hx hb d_M_endOf_19 (by decide) ?_
      refine lv_istore (lv' := [(5, .int 1), (0, .ref o), (1, .int (nI f)), (2, .int (nI b)), (3, .int (nI w)), (4, .int (nI q))]) hx hb d_M_endOf_23 hl (by decide) rfl (fun ls hl => ?_)
      refine lv_iload hx hb d_M_endOf_25 (lv_at hl 0 rfl) ?_
      refine lv_if_eq (tgt := 39) hx hb d_M_endOf_27 (by decide) (fun q => absurd q (by decide)) (fun _ => ?_)
      refine lv_aload_n hx hb d_M_endOf_30 rfl (lv_at hl 1 rfl) ?_
      refine lv_iload_n hx hb d_M_endOf_31 rfl (lv_at hl 2 rfl) ?_
      refine lv_iload_n hx hb d_M_endOf_32 rfl (lv_at hl 3 rfl) ?_
      refine M_ro S (c_M_lower l D ca o sa fs g f b (by omega) (by omega)) k_M_56 rfl hP hK rfl rfl hl.1 ⟨Nat.le_of_ble_eq_true rfl, Nat.le_of_ble_eq_true rfl⟩ ⟨Nat.zero_le _, Nat.zero_le _⟩ (Nat.le_of_ble_eq_true rfl) d_M_endOf_33 ?_
      refine lv_goto (tgt := 45) hx hb d_M_endOf_36 (by decide) ?_
      exact hret _ _ _ d_M_endOf_45 rfl (by first | (simp only [eo, c_5, e_5, c_15, ↓reduceIte]; done) | (simp only [eo, c_5, e_5, c_15, ↓reduceIte]; rfl) | rfl)
  · have e_5 : (f + w) % 2 = 0 := nI0 (by omega) c_5
    refine lv_iconst (v := 1) hx hb d_M_endOf_8 (by decide) ?_
    refine lv_goto (tgt := 13) hx hb d_M_endOf_9 (by decide) ?_
    refine lv_iload hx hb d_M_endOf_13 (lv_at hl 4 rfl) ?_
    refine lv_icmp_ne (tgt := 22) hx hb d_M_endOf_15 (by decide) (fun c_15 => ?_) (fun c_15 => ?_)
    · refine lv_iconst (v := 0) hx hb d_M_endOf_22 (by decide) ?_
      refine lv_istore (lv' := [(5, .int 0), (0, .ref o), (1, .int (nI f)), (2, .int (nI b)), (3, .int (nI w)), (4, .int (nI q))]) hx hb d_M_endOf_23 hl (by decide) rfl (fun ls hl => ?_)
      refine lv_iload hx hb d_M_endOf_25 (lv_at hl 0 rfl) ?_
      refine lv_if_eq (tgt := 39) hx hb d_M_endOf_27 (by decide) (fun _ => ?_) (fun q => absurd (by decide) q)
      refine lv_aload_n hx hb d_M_endOf_39 rfl (lv_at hl 1 rfl) ?_
      refine lv_iload_n hx hb d_M_endOf_40 rfl (lv_at hl 2 rfl) ?_
      refine lv_iload_n hx hb d_M_endOf_41 rfl (lv_at hl 3 rfl) ?_
      refine M_ro S (c_M_upper l D ca o sa fs g f b (by omega) (by omega)) k_M_63 rfl hP hK rfl rfl hl.1 ⟨Nat.le_of_ble_eq_true rfl, Nat.le_of_ble_eq_true rfl⟩ ⟨Nat.zero_le _, Nat.zero_le _⟩ (Nat.le_of_ble_eq_true rfl) d_M_endOf_42 ?_
      exact hret _ _ _ d_M_endOf_45 rfl (by first | (simp only [eo, c_5, e_5, c_15, ↓reduceIte]; done) | (simp only [eo, c_5, e_5, c_15, ↓reduceIte]; rfl) | rfl)
    · refine lv_iconst (v := 1) hx hb d_M_endOf_18 (by decide) ?_
      refine lv_goto (tgt := 23) hx hb d_M_endOf_19 (by decide) ?_
      refine lv_istore (lv' := [(5, .int 1), (0, .ref o), (1, .int (nI f)), (2, .int (nI b)), (3, .int (nI w)), (4, .int (nI q))]) hx hb d_M_endOf_23 hl (by decide) rfl (fun ls hl => ?_)
      refine lv_iload hx hb d_M_endOf_25 (lv_at hl 0 rfl) ?_
      refine lv_if_eq (tgt := 39) hx hb d_M_endOf_27 (by decide) (fun q => absurd q (by decide)) (fun _ => ?_)
      refine lv_aload_n hx hb d_M_endOf_30 rfl (lv_at hl 1 rfl) ?_
      refine lv_iload_n hx hb d_M_endOf_31 rfl (lv_at hl 2 rfl) ?_
      refine lv_iload_n hx hb d_M_endOf_32 rfl (lv_at hl 3 rfl) ?_
      refine M_ro S (c_M_lower l D ca o sa fs g f b (by omega) (by omega)) k_M_56 rfl hP hK rfl rfl hl.1 ⟨Nat.le_of_ble_eq_true rfl, Nat.le_of_ble_eq_true rfl⟩ ⟨Nat.zero_le _, Nat.zero_le _⟩ (Nat.le_of_ble_eq_true rfl) d_M_endOf_33 ?_
      refine lv_goto (tgt := 45) hx hb d_M_endOf_36 (by decide) ?_
      exact hret _ _ _ d_M_endOf_45 rfl (by first | (simp only [eo, c_5, e_5, c_15, ↓reduceIte]; done) | (simp only [eo, c_5, e_5, c_15, ↓reduceIte]; rfl) | rfl)
set_option maxHeartbeats 4000000 in
set_option maxRecDepth 100000 in
theorem c_M_travelTo (l : Launch) (D : va_G) (ca : Nat → ClassId) (o sa : Nat) (fs : List Value) (g : Nat → Int32) (f b w : Nat) (hf : f < 2) (hb20 : b < 20) (hw : w < 2): RO l y_M_travelTo b_M_travelTo 4 (some .int) 6 137 D ca [.ref o, .int (nI f), .int (nI b), .int (nI w)] (mw ca o sa fs g) (m_tr g f b w) := by
  refine RO.mk (ty := .int) rfl rfl (Nat.le_of_ble_eq_true rfl) ?_
  intro p e s m args below meth c Q S hP hK
  obtain ⟨hx, hb, hml, hown, hts⟩ := id S
  intro hret ls hl0
  have hl : lv_has ls 4 [(0, .ref o), (1, .int (nI f)), (2, .int (nI b)), (3, .int (nI w))] := hl0
  refine lv_aload_n hx hb d_M_travelTo_0 rfl (lv_at hl 0 rfl) ?_
  refine f_get S cls_M hK hP 0 rfl 0 (by decide) fl_M_s rfl rfl d_M_travelTo_1 ?_
  refine lv_iconst (v := 3) hx hb d_M_travelTo_4 (by decide) ?_
  refine M_ld S hK hP (r := 3) (by omega) rfl d_M_travelTo_5 ?_
  refine lv_aload_n hx hb d_M_travelTo_6 rfl (lv_at hl 0 rfl) ?_
  refine lv_iload_n hx hb d_M_travelTo_7 rfl (lv_at hl 1 rfl) ?_
  refine lv_iload_n hx hb d_M_travelTo_8 rfl (lv_at hl 2 rfl) ?_
  refine lv_iload_n hx hb d_M_travelTo_9 rfl (lv_at hl 3 rfl) ?_
  refine lv_iconst (v := 1) hx hb d_M_travelTo_10 (by decide) ?_
  refine M_ro S (c_M_endOf l D ca o sa fs g f b w 1 (by omega) (by omega) (by omega) (by omega)) k_M_66 rfl hP hK rfl rfl hl.1 ⟨Nat.le_of_ble_eq_true rfl, Nat.le_of_ble_eq_true rfl⟩ ⟨Nat.zero_le _, Nat.zero_le _⟩ (Nat.le_of_ble_eq_true rfl) d_M_travelTo_11 ?_
  refine lv_tope (z := sr g f b w) (eo_1 hf hw) ?_
  refine RO.callS S (c_M_apart l D ca  (g 3) (sr g f b w) ) k_M_59 hK rfl rfl hl.1 ⟨Nat.le_of_ble_eq_true rfl, Nat.le_of_ble_eq_true rfl⟩ ⟨Nat.zero_le _, Nat.zero_le _⟩ (Nat.le_of_ble_eq_true rfl) d_M_travelTo_14 ?_
  refine lv_aload_n hx hb d_M_travelTo_17 rfl (lv_at hl 0 rfl) ?_
  refine lv_iload_n hx hb d_M_travelTo_18 rfl (lv_at hl 1 rfl) ?_
  refine lv_iload_n hx hb d_M_travelTo_19 rfl (lv_at hl 2 rfl) ?_
  refine M_ro S (c_M_whole l D ca o sa fs g f b (by omega) (by omega)) k_M_42 rfl hP hK rfl rfl hl.1 ⟨Nat.le_of_ble_eq_true rfl, Nat.le_of_ble_eq_true rfl⟩ ⟨Nat.zero_le _, Nat.zero_le _⟩ (Nat.le_of_ble_eq_true rfl) d_M_travelTo_20 ?_
  refine lv_iadd hx hb d_M_travelTo_23 ?_
  exact hret _ _ _ d_M_travelTo_24 rfl (by first | (simp only [↓reduceIte]; done) | (simp only [↓reduceIte]; rfl) | rfl)
set_option maxHeartbeats 4000000 in
set_option maxRecDepth 100000 in
theorem c_M_writeFault (l : Launch) (D : va_G) (ca : Nat → ClassId) (o sa : Nat) (fs : List Value) (g : Nat → Int32) (x d u : Int32) (hB : BN g): RO l y_M_writeFault b_M_writeFault 4 (some .int) 6 130 D ca [.ref o, .int x, .int d, .int u] (mw ca o sa fs g) (m_wf g x d u) := by
  refine RO.mk (ty := .int) rfl rfl (Nat.le_of_ble_eq_true rfl) ?_
  intro p e s m args below meth c Q S hP hK
  obtain ⟨hx, hb, hml, hown, hts⟩ := id S
  intro hret ls hl0
  have hl : lv_has ls 4 [(0, .ref o), (1, .int x), (2, .int d), (3, .int u)] := hl0
  refine lv_iload_n hx hb d_M_writeFault_0 rfl (lv_at hl 1 rfl) ?_
  refine RO.callS S (c_M_isFile l D ca  x ) k_M_30 hK rfl rfl hl.1 ⟨Nat.le_of_ble_eq_true rfl, Nat.le_of_ble_eq_true rfl⟩ ⟨Nat.zero_le _, Nat.zero_le _⟩ (Nat.le_of_ble_eq_true rfl) d_M_writeFault_1 ?_
  refine lv_if_ne (tgt := 9) hx hb d_M_writeFault_4 (by decide) (fun c_4 => ?_) (fun c_4 => ?_)
  · obtain ⟨f, hf, rfl⟩ := isf_of c_4
    have hcl : (nI f).toNatClampNeg = f := nI_clamp (by omega)
    have hn20 := (hB f hf).2
    refine lv_iload_n hx hb d_M_writeFault_9 rfl (lv_at hl 2 rfl) ?_
    refine lv_iconst (v := 1) hx hb d_M_writeFault_10 (by decide) ?_
    refine lv_bipush (v := 99) hx hb d_M_writeFault_11 (by decide) ?_
    refine RO.callS S (c_M_in l D ca  d 1 99 ) k_M_26 hK rfl rfl hl.1 ⟨Nat.le_of_ble_eq_true rfl, Nat.le_of_ble_eq_true rfl⟩ ⟨Nat.zero_le _, Nat.zero_le _⟩ (Nat.le_of_ble_eq_true rfl) d_M_writeFault_13 ?_
    refine lv_if_eq (tgt := 30) hx hb d_M_writeFault_16 (by decide) (fun c_16 => ?_) (fun c_16 => ?_)
    · refine lv_bipush (v := (-2)) hx hb d_M_writeFault_30 (by decide) ?_
      exact hret _ _ _ d_M_writeFault_32 rfl (by first | (simp only [m_wf, c_4, hcl, c_16, ↓reduceIte]; done) | (simp only [m_wf, c_4, hcl, c_16, ↓reduceIte]; rfl) | rfl)
    · refine lv_iload_n hx hb d_M_writeFault_19 rfl (lv_at hl 3 rfl) ?_
      refine lv_iconst (v := 0) hx hb d_M_writeFault_20 (by decide) ?_
      refine lv_sipush (v := 9999) hx hb d_M_writeFault_21 (by decide) ?_
      refine RO.callS S (c_M_in l D ca  u 0 9999 ) k_M_26 hK rfl rfl hl.1 ⟨Nat.le_of_ble_eq_true rfl, Nat.le_of_ble_eq_true rfl⟩ ⟨Nat.zero_le _, Nat.zero_le _⟩ (Nat.le_of_ble_eq_true rfl) d_M_writeFault_24 ?_
      refine lv_if_ne (tgt := 33) hx hb d_M_writeFault_27 (by decide) (fun c_27 => ?_) (fun c_27 => ?_)
      · refine lv_aload_n hx hb d_M_writeFault_33 rfl (lv_at hl 0 rfl) ?_
        refine f_get S cls_M hK hP 0 rfl 0 (by decide) fl_M_s rfl rfl d_M_writeFault_34 ?_
        refine lv_bipush (v := 8) hx hb d_M_writeFault_37 (by decide) ?_
        refine lv_iload_n hx hb d_M_writeFault_39 rfl (lv_at hl 1 rfl) ?_
        refine lv_iadd hx hb d_M_writeFault_40 ?_
        refine lv_tope (z := nI (8 + f)) (nI_add 8 f) ?_
        refine M_ld S hK hP (r := 8 + f) (by omega) rfl d_M_writeFault_41 ?_
        refine lv_tope (z := nI (bn g f)) ((hB f hf).1) ?_
        refine lv_bipush (v := 20) hx hb d_M_writeFault_42 (by decide) ?_
        refine lv_icmp_ne (tgt := 50) hx hb d_M_writeFault_44 (by decide) (fun c_44 => ?_) (fun c_44 => ?_)
        · refine lv_aload_n hx hb d_M_writeFault_50 rfl (lv_at hl 0 rfl) ?_
          refine M_ro S (c_M_gap l D ca o sa fs g  hB) k_M_70 rfl hP hK rfl rfl hl.1 ⟨Nat.le_of_ble_eq_true rfl, Nat.le_of_ble_eq_true rfl⟩ ⟨Nat.zero_le _, Nat.zero_le _⟩ (Nat.le_of_ble_eq_true rfl) d_M_writeFault_51 ?_
          refine lv_iload_n hx hb d_M_writeFault_54 rfl (lv_at hl 2 rfl) ?_
          refine lv_isub hx hb d_M_writeFault_55 ?_
          refine lv_iconst (v := 2) hx hb d_M_writeFault_56 (by decide) ?_
          refine lv_aload_n hx hb d_M_writeFault_57 rfl (lv_at hl 0 rfl) ?_
          refine f_get S cls_M hK hP 0 rfl 0 (by decide) fl_M_s rfl rfl d_M_writeFault_58 ?_
          refine lv_iconst (v := 2) hx hb d_M_writeFault_61 (by decide) ?_
          refine M_ld S hK hP (r := 2) (by omega) rfl d_M_writeFault_62 ?_
          refine lv_imul hx hb d_M_writeFault_63 ?_
          refine lv_isub hx hb d_M_writeFault_64 ?_
          refine lv_aload_n hx hb d_M_writeFault_65 rfl (lv_at hl 0 rfl) ?_
          refine f_get S cls_M hK hP 0 rfl 0 (by decide) fl_M_s rfl rfl d_M_writeFault_66 ?_
          refine lv_iconst (v := 1) hx hb d_M_writeFault_69 (by decide) ?_
          refine M_ld S hK hP (r := 1) (by omega) rfl d_M_writeFault_70 ?_
          refine lv_icmp_ge (tgt := 79) hx hb d_M_writeFault_71 (by decide) (fun c_71 => ?_) (fun c_71 => ?_)
          · refine lv_iconst (v := 0) hx hb d_M_writeFault_79 (by decide) ?_
            exact hret _ _ _ d_M_writeFault_80 rfl (by first | (simp only [m_wf, c_4, hcl, c_16, c_27, c_44, c_71, ↓reduceIte]; done) | (simp only [m_wf, c_4, hcl, c_16, c_27, c_44, c_71, ↓reduceIte]; rfl) | rfl)
          · refine lv_bipush (v := (-5)) hx hb d_M_writeFault_74 (by decide) ?_
            refine lv_goto (tgt := 80) hx hb d_M_writeFault_76 (by decide) ?_
            exact hret _ _ _ d_M_writeFault_80 rfl (by first | (simp only [m_wf, c_4, hcl, c_16, c_27, c_44, c_71, ↓reduceIte]; done) | (simp only [m_wf, c_4, hcl, c_16, c_27, c_44, c_71, ↓reduceIte]; rfl) | rfl)
        · refine lv_bipush (v := (-4)) hx hb d_M_writeFault_47 (by decide) ?_
          exact hret _ _ _ d_M_writeFault_49 rfl (by first | (simp only [m_wf, c_4, hcl, c_16, c_27, c_44, ↓reduceIte]; done) | (simp only [m_wf, c_4, hcl, c_16, c_27, c_44, ↓reduceIte]; rfl) | rfl)
      · refine lv_bipush (v := (-2)) hx hb d_M_writeFault_30 (by decide) ?_
        exact hret _ _ _ d_M_writeFault_32 rfl (by first | (simp only [m_wf, c_4, hcl, c_16, c_27, ↓reduceIte]; done) | (simp only [m_wf, c_4, hcl, c_16, c_27, ↓reduceIte]; rfl) | rfl)
  · refine lv_iconst (v := (-1)) hx hb d_M_writeFault_7 (by decide) ?_
    exact hret _ _ _ d_M_writeFault_8 rfl (by first | (simp only [m_wf, c_4, ↓reduceIte]; done) | (simp only [m_wf, c_4, ↓reduceIte]; rfl) | rfl)
set_option maxHeartbeats 4000000 in
set_option maxRecDepth 100000 in
theorem c_M_writes (l : Launch) (D : va_G) (ca : Nat → ClassId) (o sa : Nat) (fs : List Value) (g : Nat → Int32) (f : Nat) (d u : Int32) (hB : BN g) (hf : f < 2) (hlt : bn g f < 20): MI l y_M_writes b_M_writes 5 (some .int) 5 110 D ca [.ref o, .int (nI f), .int d, .int u] (mw ca o sa fs g) (nI (bn g f)) (mw ca o sa fs (m_wr g f (bn g f) d u)) := by
  refine MI.mk (ty := .int) rfl rfl (Nat.le_of_ble_eq_true rfl) ?_
  intro p e s m args below meth c Q A S hA hP hD hK
  obtain ⟨hx, hb, hml, hown, hts⟩ := id S
  intro hret ls hl0 hS
  have hl : lv_has ls 5 [(0, .ref o), (1, .int (nI f)), (2, .int d), (3, .int u)] := hl0
  refine lv_aload_n hx hb d_M_writes_0 rfl (lv_at hl 0 rfl) ?_
  refine lv_aload_n hx hb d_M_writes_1 rfl (lv_at hl 0 rfl) ?_
  refine lv_iload_n hx hb d_M_writes_2 rfl (lv_at hl 1 rfl) ?_
  refine M_ro S (c_M_end l D ca o sa fs g f hB (by omega)) k_M_53 rfl hP hK rfl rfl hl.1 ⟨Nat.le_of_ble_eq_true rfl, Nat.le_of_ble_eq_true rfl⟩ ⟨Nat.zero_le _, Nat.zero_le _⟩ (Nat.le_of_ble_eq_true rfl) d_M_writes_3 ?_
  refine M_mv S (c_M_travel l D ca o sa fs g (en g f) ) k_M_74 rfl hP hD hS hA hK rfl rfl hl.1 ⟨Nat.le_of_ble_eq_true rfl, Nat.le_of_ble_eq_true rfl⟩ ⟨Nat.zero_le _, Nat.zero_le _⟩ (Nat.le_of_ble_eq_true rfl) d_M_writes_6 (fun H locs hP hD hS => ?_)
  obtain ⟨g1, hg1⟩ : ∃ z : Nat → Int32, z = tvm g (en g f) := ⟨_, rfl⟩
  rw [← hg1] at hP hD
  have hB1 : BN g1 := by rw [hg1]; exact BN_tvm hB
  have hb1 : bn g1 f = bn g f := by rw [hg1]; exact bn_tvm hf
  refine lv_aload_n hx hb d_M_writes_9 rfl (lv_at hl 0 rfl) ?_
  refine f_get S cls_M hK hP 0 rfl 0 (by decide) fl_M_s rfl rfl d_M_writes_10 ?_
  refine lv_bipush (v := 8) hx hb d_M_writes_13 (by decide) ?_
  refine lv_iload_n hx hb d_M_writes_15 rfl (lv_at hl 1 rfl) ?_
  refine lv_iadd hx hb d_M_writes_16 ?_
  refine lv_tope (z := nI (8 + f)) (nI_add 8 f) ?_
  refine M_ld S hK hP (r := 8 + f) (by omega) rfl d_M_writes_17 ?_
  refine lv_tope (z := nI (bn g f)) (by rw [(hB1 f hf).1, hb1]) ?_
  refine lv_istore (lv' := [(4, .int (nI (bn g f))), (0, .ref o), (1, .int (nI f)), (2, .int d), (3, .int u)]) hx hb d_M_writes_18 hl (by decide) rfl (fun ls hl => ?_)
  refine lv_aload_n hx hb d_M_writes_20 rfl (lv_at hl 1 rfl) ?_
  refine f_get S cls_M hK hP 0 rfl 0 (by decide) fl_M_s rfl rfl d_M_writes_21 ?_
  refine lv_iload_n hx hb d_M_writes_24 rfl (lv_at hl 2 rfl) ?_
  refine lv_iload hx hb d_M_writes_25 (lv_at hl 0 rfl) ?_
  refine lv_iconst (v := 0) hx hb d_M_writes_27 (by decide) ?_
  refine RO.callS S (c_M_of l D ca  f (bn g f) 0 ) k_M_38 hK rfl rfl hl.1 ⟨Nat.le_of_ble_eq_true rfl, Nat.le_of_ble_eq_true rfl⟩ ⟨Nat.zero_le _, Nat.zero_le _⟩ (Nat.le_of_ble_eq_true rfl) d_M_writes_28 ?_
  refine lv_iload_n hx hb d_M_writes_31 rfl (lv_at hl 3 rfl) ?_
  refine M_st S hK hP hD hS (r := 10 + 4 * (f * 20 + (bn g f)) + 0) (by omega) rfl d_M_writes_32 (fun H locs hP hD hS => ?_)
  obtain ⟨g2, hg2⟩ : ∃ z : Nat → Int32, z = upd g1 (10 + 4 * (f * 20 + (bn g f)) + 0) d := ⟨_, rfl⟩
  rw [← hg2] at hP hD
  refine lv_aload_n hx hb d_M_writes_33 rfl (lv_at hl 1 rfl) ?_
  refine f_get S cls_M hK hP 0 rfl 0 (by decide) fl_M_s rfl rfl d_M_writes_34 ?_
  refine lv_iload_n hx hb d_M_writes_37 rfl (lv_at hl 2 rfl) ?_
  refine lv_iload hx hb d_M_writes_38 (lv_at hl 0 rfl) ?_
  refine lv_iconst (v := 1) hx hb d_M_writes_40 (by decide) ?_
  refine RO.callS S (c_M_of l D ca  f (bn g f) 1 ) k_M_38 hK rfl rfl hl.1 ⟨Nat.le_of_ble_eq_true rfl, Nat.le_of_ble_eq_true rfl⟩ ⟨Nat.zero_le _, Nat.zero_le _⟩ (Nat.le_of_ble_eq_true rfl) d_M_writes_41 ?_
  refine lv_iload_n hx hb d_M_writes_44 rfl (lv_at hl 4 rfl) ?_
  refine M_st S hK hP hD hS (r := 10 + 4 * (f * 20 + (bn g f)) + 1) (by omega) rfl d_M_writes_45 (fun H locs hP hD hS => ?_)
  obtain ⟨g3, hg3⟩ : ∃ z : Nat → Int32, z = upd g2 (10 + 4 * (f * 20 + (bn g f)) + 1) u := ⟨_, rfl⟩
  rw [← hg3] at hP hD
  refine lv_aload_n hx hb d_M_writes_46 rfl (lv_at hl 1 rfl) ?_
  refine f_get S cls_M hK hP 0 rfl 0 (by decide) fl_M_s rfl rfl d_M_writes_47 ?_
  refine lv_iload_n hx hb d_M_writes_50 rfl (lv_at hl 2 rfl) ?_
  refine lv_iload hx hb d_M_writes_51 (lv_at hl 0 rfl) ?_
  refine lv_iconst (v := 2) hx hb d_M_writes_53 (by decide) ?_
  refine RO.callS S (c_M_of l D ca  f (bn g f) 2 ) k_M_38 hK rfl rfl hl.1 ⟨Nat.le_of_ble_eq_true rfl, Nat.le_of_ble_eq_true rfl⟩ ⟨Nat.zero_le _, Nat.zero_le _⟩ (Nat.le_of_ble_eq_true rfl) d_M_writes_54 ?_
  refine lv_aload_n hx hb d_M_writes_57 rfl (lv_at hl 1 rfl) ?_
  refine f_get S cls_M hK hP 0 rfl 0 (by decide) fl_M_s rfl rfl d_M_writes_58 ?_
  refine lv_iconst (v := 2) hx hb d_M_writes_61 (by decide) ?_
  refine M_ld S hK hP (r := 2) (by omega) rfl d_M_writes_62 ?_
  refine M_st S hK hP hD hS (r := 10 + 4 * (f * 20 + (bn g f)) + 2) (by omega) rfl d_M_writes_63 (fun H locs hP hD hS => ?_)
  obtain ⟨g4, hg4⟩ : ∃ z : Nat → Int32, z = upd g3 (10 + 4 * (f * 20 + (bn g f)) + 2) (g3 2) := ⟨_, rfl⟩
  rw [← hg4] at hP hD
  refine lv_aload_n hx hb d_M_writes_64 rfl (lv_at hl 1 rfl) ?_
  refine f_get S cls_M hK hP 0 rfl 0 (by decide) fl_M_s rfl rfl d_M_writes_65 ?_
  refine lv_iload_n hx hb d_M_writes_68 rfl (lv_at hl 2 rfl) ?_
  refine lv_iload hx hb d_M_writes_69 (lv_at hl 0 rfl) ?_
  refine lv_iconst (v := 3) hx hb d_M_writes_71 (by decide) ?_
  refine RO.callS S (c_M_of l D ca  f (bn g f) 3 ) k_M_38 hK rfl rfl hl.1 ⟨Nat.le_of_ble_eq_true rfl, Nat.le_of_ble_eq_true rfl⟩ ⟨Nat.zero_le _, Nat.zero_le _⟩ (Nat.le_of_ble_eq_true rfl) d_M_writes_72 ?_
  refine lv_iconst (v := 0) hx hb d_M_writes_75 (by decide) ?_
  refine M_st S hK hP hD hS (r := 10 + 4 * (f * 20 + (bn g f)) + 3) (by omega) rfl d_M_writes_76 (fun H locs hP hD hS => ?_)
  obtain ⟨g5, hg5⟩ : ∃ z : Nat → Int32, z = upd g4 (10 + 4 * (f * 20 + (bn g f)) + 3) 0 := ⟨_, rfl⟩
  rw [← hg5] at hP hD
  have hB5 : BN g5 := by rw [hg5, hg4, hg3, hg2]; exact BN_up (by omega) (BN_up (by omega) (BN_up (by omega) (BN_up (by omega) hB1)))
  have hb5 : bn g5 f = bn g f := by rw [hg5, hg4, hg3, hg2, bn_up hf (by omega), bn_up hf (by omega), bn_up hf (by omega), bn_up hf (by omega), hb1]
  refine lv_aload_n hx hb d_M_writes_77 rfl (lv_at hl 1 rfl) ?_
  refine f_get S cls_M hK hP 0 rfl 0 (by decide) fl_M_s rfl rfl d_M_writes_78 ?_
  refine lv_bipush (v := 8) hx hb d_M_writes_81 (by decide) ?_
  refine lv_iload_n hx hb d_M_writes_83 rfl (lv_at hl 2 rfl) ?_
  refine lv_iadd hx hb d_M_writes_84 ?_
  refine lv_tope (z := nI (8 + f)) (nI_add 8 f) ?_
  refine lv_dup2_11 hx hb d_M_writes_85 rfl rfl ?_
  refine M_ld S hK hP (r := 8 + f) (by omega) rfl d_M_writes_86 ?_
  refine lv_tope (z := nI (bn g f)) (by rw [(hB5 f hf).1, hb5]) ?_
  refine lv_iconst (v := 1) hx hb d_M_writes_87 (by decide) ?_
  refine lv_iadd hx hb d_M_writes_88 ?_
  refine lv_tope (z := nI ((bn g f) + 1)) (nI_add (bn g f) 1) ?_
  refine M_st S hK hP hD hS (r := 8 + f) (by omega) rfl d_M_writes_89 (fun H locs hP hD hS => ?_)
  obtain ⟨g6, hg6⟩ : ∃ z : Nat → Int32, z = upd g5 (8 + f) (nI ((bn g f) + 1)) := ⟨_, rfl⟩
  rw [← hg6] at hP hD
  have hB6 : BN g6 := by rw [hg6]; exact BN_set hf (by omega) hB5
  refine lv_aload_n hx hb d_M_writes_90 rfl (lv_at hl 1 rfl) ?_
  refine lv_aload_n hx hb d_M_writes_91 rfl (lv_at hl 1 rfl) ?_
  refine lv_iload_n hx hb d_M_writes_92 rfl (lv_at hl 2 rfl) ?_
  refine M_ro S (c_M_end l D ca o sa fs g6 f hB6 (by omega)) k_M_53 rfl hP hK rfl rfl hl.1 ⟨Nat.le_of_ble_eq_true rfl, Nat.le_of_ble_eq_true rfl⟩ ⟨Nat.zero_le _, Nat.zero_le _⟩ (Nat.le_of_ble_eq_true rfl) d_M_writes_93 ?_
  refine M_mv S (c_M_travel l D ca o sa fs g6 (en g6 f) ) k_M_74 rfl hP hD hS hA hK rfl rfl hl.1 ⟨Nat.le_of_ble_eq_true rfl, Nat.le_of_ble_eq_true rfl⟩ ⟨Nat.zero_le _, Nat.zero_le _⟩ (Nat.le_of_ble_eq_true rfl) d_M_writes_96 (fun H locs hP hD hS => ?_)
  obtain ⟨g7, hg7⟩ : ∃ z : Nat → Int32, z = tvm g6 (en g6 f) := ⟨_, rfl⟩
  rw [← hg7] at hP hD
  refine lv_iload hx hb d_M_writes_99 (lv_at hl 0 rfl) ?_
  exact hret _ _ _ _ _ _ d_M_writes_101 rfl (by subst hg1 hg2 hg3 hg4 hg5 hg6 hg7; first | (simp only [↓reduceIte]; done) | (simp only [↓reduceIte]; rfl) | rfl) (by subst hg1 hg2 hg3 hg4 hg5 hg6 hg7; first | (simp only [↓reduceIte]; done) | (simp only [↓reduceIte]; rfl) | rfl) hP hD hS
set_option maxHeartbeats 4000000 in
set_option maxRecDepth 100000 in
theorem c_M_cutFault (l : Launch) (D : va_G) (ca : Nat → ClassId) (o sa : Nat) (fs : List Value) (g : Nat → Int32) (x y : Int32) (hB : BN g): RO l y_M_cutFault b_M_cutFault 3 (some .int) 2 42 D ca [.ref o, .int x, .int y] (mw ca o sa fs g) (m_cf g x y) := by
  refine RO.mk (ty := .int) rfl rfl (Nat.le_of_ble_eq_true rfl) ?_
  intro p e s m args below meth c Q S hP hK
  obtain ⟨hx, hb, hml, hown, hts⟩ := id S
  intro hret ls hl0
  have hl : lv_has ls 3 [(0, .ref o), (1, .int x), (2, .int y)] := hl0
  refine lv_iload_n hx hb d_M_cutFault_0 rfl (lv_at hl 1 rfl) ?_
  refine RO.callS S (c_M_isFile l D ca  x ) k_M_30 hK rfl rfl hl.1 ⟨Nat.le_of_ble_eq_true rfl, Nat.le_of_ble_eq_true rfl⟩ ⟨Nat.zero_le _, Nat.zero_le _⟩ (Nat.le_of_ble_eq_true rfl) d_M_cutFault_1 ?_
  refine lv_if_ne (tgt := 11) hx hb d_M_cutFault_4 (by decide) (fun c_4 => ?_) (fun c_4 => ?_)
  · obtain ⟨f, hf, rfl⟩ := isf_of c_4
    have hcl : (nI f).toNatClampNeg = f := nI_clamp (by omega)
    have hn20 := (hB f hf).2
    refine lv_iload_n hx hb d_M_cutFault_11 rfl (lv_at hl 2 rfl) ?_
    refine lv_if_ge (tgt := 20) hx hb d_M_cutFault_12 (by decide) (fun c_12 => ?_) (fun c_12 => ?_)
    · refine lv_iload_n hx hb d_M_cutFault_20 rfl (lv_at hl 2 rfl) ?_
      refine lv_aload_n hx hb d_M_cutFault_21 rfl (lv_at hl 0 rfl) ?_
      refine f_get S cls_M hK hP 0 rfl 0 (by decide) fl_M_s rfl rfl d_M_cutFault_22 ?_
      refine lv_bipush (v := 8) hx hb d_M_cutFault_25 (by decide) ?_
      refine lv_iload_n hx hb d_M_cutFault_27 rfl (lv_at hl 1 rfl) ?_
      refine lv_iadd hx hb d_M_cutFault_28 ?_
      refine lv_tope (z := nI (8 + f)) (nI_add 8 f) ?_
      refine M_ld S hK hP (r := 8 + f) (by omega) rfl d_M_cutFault_29 ?_
      refine lv_tope (z := nI (bn g f)) ((hB f hf).1) ?_
      refine lv_icmp_le (tgt := 38) hx hb d_M_cutFault_30 (by decide) (fun c_30 => ?_) (fun c_30 => ?_)
      · refine lv_iconst (v := 0) hx hb d_M_cutFault_38 (by decide) ?_
        exact hret _ _ _ d_M_cutFault_39 rfl (by first | (simp only [m_cf, c_4, hcl, c_12, c_30, ↓reduceIte]; done) | (simp only [m_cf, c_4, hcl, c_12, c_30, ↓reduceIte]; rfl) | rfl)
      · refine lv_bipush (v := (-5)) hx hb d_M_cutFault_33 (by decide) ?_
        refine lv_goto (tgt := 39) hx hb d_M_cutFault_35 (by decide) ?_
        exact hret _ _ _ d_M_cutFault_39 rfl (by first | (simp only [m_cf, c_4, hcl, c_12, c_30, ↓reduceIte]; done) | (simp only [m_cf, c_4, hcl, c_12, c_30, ↓reduceIte]; rfl) | rfl)
    · refine lv_bipush (v := (-2)) hx hb d_M_cutFault_15 (by decide) ?_
      refine lv_goto (tgt := 39) hx hb d_M_cutFault_17 (by decide) ?_
      exact hret _ _ _ d_M_cutFault_39 rfl (by first | (simp only [m_cf, c_4, hcl, c_12, ↓reduceIte]; done) | (simp only [m_cf, c_4, hcl, c_12, ↓reduceIte]; rfl) | rfl)
  · refine lv_iconst (v := (-1)) hx hb d_M_cutFault_7 (by decide) ?_
    refine lv_goto (tgt := 39) hx hb d_M_cutFault_8 (by decide) ?_
    exact hret _ _ _ d_M_cutFault_39 rfl (by first | (simp only [m_cf, c_4, ↓reduceIte]; done) | (simp only [m_cf, c_4, ↓reduceIte]; rfl) | rfl)
set_option maxHeartbeats 4000000 in
set_option maxRecDepth 100000 in
theorem c_M_cuts (l : Launch) (D : va_G) (ca : Nat → ClassId) (o sa : Nat) (fs : List Value) (g : Nat → Int32) (f : Nat) (y : Int32) (hB : BN g) (hf : f < 2): MI l y_M_cuts b_M_cuts 4 (some .int) 0 0 D ca [.ref o, .int (nI f), .int y] (mw ca o sa fs g) (nI (bn g f) - y) (mw ca o sa fs (upd g (8 + f) y)) := by
  refine MI.mk (ty := .int) rfl rfl (Nat.le_of_ble_eq_true rfl) ?_
  intro p e s m args below meth c Q A S hA hP hD hK
  obtain ⟨hx, hb, hml, hown, hts⟩ := id S
  intro hret ls hl0 hS
  have hl : lv_has ls 4 [(0, .ref o), (1, .int (nI f)), (2, .int y)] := hl0
  refine lv_aload_n hx hb d_M_cuts_0 rfl (lv_at hl 0 rfl) ?_
  refine f_get S cls_M hK hP 0 rfl 0 (by decide) fl_M_s rfl rfl d_M_cuts_1 ?_
  refine lv_bipush (v := 8) hx hb d_M_cuts_4 (by decide) ?_
  refine lv_iload_n hx hb d_M_cuts_6 rfl (lv_at hl 1 rfl) ?_
  refine lv_iadd hx hb d_M_cuts_7 ?_
  refine lv_tope (z := nI (8 + f)) (nI_add 8 f) ?_
  refine M_ld S hK hP (r := 8 + f) (by omega) rfl d_M_cuts_8 ?_
  refine lv_tope (z := nI (bn g f)) ((hB f hf).1) ?_
  refine lv_iload_n hx hb d_M_cuts_9 rfl (lv_at hl 2 rfl) ?_
  refine lv_isub hx hb d_M_cuts_10 ?_
  refine lv_istore_n (lv' := [(3, .int ((nI (bn g f)) - y)), (0, .ref o), (1, .int (nI f)), (2, .int y)]) hx hb d_M_cuts_11 rfl hl (by decide) rfl (fun ls hl => ?_)
  refine lv_aload_n hx hb d_M_cuts_12 rfl (lv_at hl 1 rfl) ?_
  refine f_get S cls_M hK hP 0 rfl 0 (by decide) fl_M_s rfl rfl d_M_cuts_13 ?_
  refine lv_bipush (v := 8) hx hb d_M_cuts_16 (by decide) ?_
  refine lv_iload_n hx hb d_M_cuts_18 rfl (lv_at hl 2 rfl) ?_
  refine lv_iadd hx hb d_M_cuts_19 ?_
  refine lv_tope (z := nI (8 + f)) (nI_add 8 f) ?_
  refine lv_iload_n hx hb d_M_cuts_20 rfl (lv_at hl 3 rfl) ?_
  refine M_st S hK hP hD hS (r := 8 + f) (by omega) rfl d_M_cuts_21 (fun H locs hP hD hS => ?_)
  obtain ⟨g1, hg1⟩ : ∃ z : Nat → Int32, z = upd g (8 + f) y := ⟨_, rfl⟩
  rw [← hg1] at hP hD
  refine lv_iload_n hx hb d_M_cuts_22 rfl (lv_at hl 0 rfl) ?_
  exact hret _ _ _ _ _ _ d_M_cuts_23 rfl (by subst hg1; first | (simp only [↓reduceIte]; done) | (simp only [↓reduceIte]; rfl) | rfl) (by subst hg1; first | (simp only [↓reduceIte]; done) | (simp only [↓reduceIte]; rfl) | rfl) hP hD hS
set_option maxHeartbeats 4000000 in
set_option maxRecDepth 100000 in
theorem c_M_moves (l : Launch) (D : va_G) (ca : Nat → ClassId) (o sa : Nat) (fs : List Value) (g : Nat → Int32) (x : Int32) : MI l y_M_moves b_M_moves 3 (some .int) 2 42 D ca [.ref o, .int x] (mw ca o sa fs g) (ap (g 3) x) (mw ca o sa fs (tvm g x)) := by
  refine MI.mk (ty := .int) rfl rfl (Nat.le_of_ble_eq_true rfl) ?_
  intro p e s m args below meth c Q A S hA hP hD hK
  obtain ⟨hx, hb, hml, hown, hts⟩ := id S
  intro hret ls hl0 hS
  have hl : lv_has ls 3 [(0, .ref o), (1, .int x)] := hl0
  refine lv_aload_n hx hb d_M_moves_0 rfl (lv_at hl 0 rfl) ?_
  refine f_get S cls_M hK hP 0 rfl 0 (by decide) fl_M_s rfl rfl d_M_moves_1 ?_
  refine lv_iconst (v := 3) hx hb d_M_moves_4 (by decide) ?_
  refine M_ld S hK hP (r := 3) (by omega) rfl d_M_moves_5 ?_
  refine lv_iload_n hx hb d_M_moves_6 rfl (lv_at hl 1 rfl) ?_
  refine RO.callS S (c_M_apart l D ca  (g 3) x ) k_M_59 hK rfl rfl hl.1 ⟨Nat.le_of_ble_eq_true rfl, Nat.le_of_ble_eq_true rfl⟩ ⟨Nat.zero_le _, Nat.zero_le _⟩ (Nat.le_of_ble_eq_true rfl) d_M_moves_7 ?_
  refine lv_istore_n (lv' := [(2, .int (ap (g 3) x)), (0, .ref o), (1, .int x)]) hx hb d_M_moves_10 rfl hl (by decide) rfl (fun ls hl => ?_)
  refine lv_aload_n hx hb d_M_moves_11 rfl (lv_at hl 1 rfl) ?_
  refine lv_iload_n hx hb d_M_moves_12 rfl (lv_at hl 2 rfl) ?_
  refine M_mv S (c_M_travel l D ca o sa fs g x ) k_M_74 rfl hP hD hS hA hK rfl rfl hl.1 ⟨Nat.le_of_ble_eq_true rfl, Nat.le_of_ble_eq_true rfl⟩ ⟨Nat.zero_le _, Nat.zero_le _⟩ (Nat.le_of_ble_eq_true rfl) d_M_moves_13 (fun H locs hP hD hS => ?_)
  obtain ⟨g1, hg1⟩ : ∃ z : Nat → Int32, z = tvm g x := ⟨_, rfl⟩
  rw [← hg1] at hP hD
  refine lv_iload_n hx hb d_M_moves_16 rfl (lv_at hl 0 rfl) ?_
  exact hret _ _ _ _ _ _ d_M_moves_17 rfl (by subst hg1; first | (simp only [↓reduceIte]; done) | (simp only [↓reduceIte]; rfl) | rfl) (by subst hg1; first | (simp only [↓reduceIte]; done) | (simp only [↓reduceIte]; rfl) | rfl) hP hD hS
set_option maxHeartbeats 4000000 in
set_option maxRecDepth 100000 in
theorem c_M_rewinds (l : Launch) (D : va_G) (ca : Nat → ClassId) (o sa : Nat) (fs : List Value) (g : Nat → Int32)  : MI l y_M_rewinds b_M_rewinds 1 (some .int) 2 42 D ca [.ref o] (mw ca o sa fs g) ((m_rew g).1) (mw ca o sa fs ((m_rew g).2)) := by
  refine MI.mk (ty := .int) rfl rfl (Nat.le_of_ble_eq_true rfl) ?_
  intro p e s m args below meth c Q A S hA hP hD hK
  obtain ⟨hx, hb, hml, hown, hts⟩ := id S
  intro hret ls hl0 hS
  have hl : lv_has ls 1 [(0, .ref o)] := hl0
  refine lv_aload_n hx hb d_M_rewinds_0 rfl (lv_at hl 0 rfl) ?_
  refine lv_aload_n hx hb d_M_rewinds_1 rfl (lv_at hl 0 rfl) ?_
  refine f_get S cls_M hK hP 0 rfl 0 (by decide) fl_M_s rfl rfl d_M_rewinds_2 ?_
  refine lv_iconst (v := 3) hx hb d_M_rewinds_5 (by decide) ?_
  refine M_ld S hK hP (r := 3) (by omega) rfl d_M_rewinds_6 ?_
  refine lv_aload_n hx hb d_M_rewinds_7 rfl (lv_at hl 0 rfl) ?_
  refine f_get S cls_M hK hP 0 rfl 0 (by decide) fl_M_s rfl rfl d_M_rewinds_8 ?_
  refine lv_iconst (v := 0) hx hb d_M_rewinds_11 (by decide) ?_
  refine M_ld S hK hP (r := 0) (by omega) rfl d_M_rewinds_12 ?_
  refine lv_aload_n hx hb d_M_rewinds_13 rfl (lv_at hl 0 rfl) ?_
  refine f_get S cls_M hK hP 0 rfl 0 (by decide) fl_M_s rfl rfl d_M_rewinds_14 ?_
  refine lv_iconst (v := 3) hx hb d_M_rewinds_17 (by decide) ?_
  refine M_ld S hK hP (r := 3) (by omega) rfl d_M_rewinds_18 ?_
  refine lv_isub hx hb d_M_rewinds_19 ?_
  refine lv_icmp_gt (tgt := 27) hx hb d_M_rewinds_20 (by decide) (fun c_20 => ?_) (fun c_20 => ?_)
  · refine lv_aload_n hx hb d_M_rewinds_27 rfl (lv_at hl 0 rfl) ?_
    refine f_get S cls_M hK hP 0 rfl 0 (by decide) fl_M_s rfl rfl d_M_rewinds_28 ?_
    refine lv_iconst (v := 0) hx hb d_M_rewinds_31 (by decide) ?_
    refine M_ld S hK hP (r := 0) (by omega) rfl d_M_rewinds_32 ?_
    refine M_mv S (c_M_travel l D ca o sa fs g (g 0) ) k_M_74 rfl hP hD hS hA hK rfl rfl hl.1 ⟨Nat.le_of_ble_eq_true rfl, Nat.le_of_ble_eq_true rfl⟩ ⟨Nat.zero_le _, Nat.zero_le _⟩ (Nat.le_of_ble_eq_true rfl) d_M_rewinds_33 (fun H locs hP hD hS => ?_)
    obtain ⟨g1, hg1⟩ : ∃ z : Nat → Int32, z = tvm g (g 0) := ⟨_, rfl⟩
    rw [← hg1] at hP hD
    refine lv_aload_n hx hb d_M_rewinds_36 rfl (lv_at hl 0 rfl) ?_
    refine f_get S cls_M hK hP 0 rfl 0 (by decide) fl_M_s rfl rfl d_M_rewinds_37 ?_
    refine lv_iconst (v := 3) hx hb d_M_rewinds_40 (by decide) ?_
    refine M_ld S hK hP (r := 3) (by omega) rfl d_M_rewinds_41 ?_
    exact hret _ _ _ _ _ _ d_M_rewinds_42 rfl (by subst hg1; first | (simp only [m_rew, c_20, ↓reduceIte]; done) | (simp only [m_rew, c_20, ↓reduceIte]; rfl) | rfl) (by subst hg1; first | (simp only [m_rew, c_20, ↓reduceIte]; done) | (simp only [m_rew, c_20, ↓reduceIte]; rfl) | rfl) hP hD hS
  · refine lv_iconst (v := 0) hx hb d_M_rewinds_23 (by decide) ?_
    refine lv_goto (tgt := 33) hx hb d_M_rewinds_24 (by decide) ?_
    refine M_mv S (c_M_travel l D ca o sa fs g 0 ) k_M_74 rfl hP hD hS hA hK rfl rfl hl.1 ⟨Nat.le_of_ble_eq_true rfl, Nat.le_of_ble_eq_true rfl⟩ ⟨Nat.zero_le _, Nat.zero_le _⟩ (Nat.le_of_ble_eq_true rfl) d_M_rewinds_33 (fun H locs hP hD hS => ?_)
    obtain ⟨g2, hg2⟩ : ∃ z : Nat → Int32, z = tvm g 0 := ⟨_, rfl⟩
    rw [← hg2] at hP hD
    refine lv_aload_n hx hb d_M_rewinds_36 rfl (lv_at hl 0 rfl) ?_
    refine f_get S cls_M hK hP 0 rfl 0 (by decide) fl_M_s rfl rfl d_M_rewinds_37 ?_
    refine lv_iconst (v := 3) hx hb d_M_rewinds_40 (by decide) ?_
    refine M_ld S hK hP (r := 3) (by omega) rfl d_M_rewinds_41 ?_
    exact hret _ _ _ _ _ _ d_M_rewinds_42 rfl (by subst hg2; first | (simp only [m_rew, c_20, ↓reduceIte]; done) | (simp only [m_rew, c_20, ↓reduceIte]; rfl) | rfl) (by subst hg2; first | (simp only [m_rew, c_20, ↓reduceIte]; done) | (simp only [m_rew, c_20, ↓reduceIte]; rfl) | rfl) hP hD hS
set_option maxHeartbeats 4000000 in
set_option maxRecDepth 100000 in
theorem c_M_readFault (l : Launch) (D : va_G) (ca : Nat → ClassId) (o sa : Nat) (fs : List Value) (g : Nat → Int32) (x y z : Int32) (hB : BN g): RO l y_M_readFault b_M_readFault 4 (some .int) 3 64 D ca [.ref o, .int x, .int y, .int z] (mw ca o sa fs g) (m_rf g x y z) := by
  refine RO.mk (ty := .int) rfl rfl (Nat.le_of_ble_eq_true rfl) ?_
  intro p e s m args below meth c Q S hP hK
  obtain ⟨hx, hb, hml, hown, hts⟩ := id S
  intro hret ls hl0
  have hl : lv_has ls 4 [(0, .ref o), (1, .int x), (2, .int y), (3, .int z)] := hl0
  refine lv_aload_n hx hb d_M_readFault_0 rfl (lv_at hl 0 rfl) ?_
  refine lv_iload_n hx hb d_M_readFault_1 rfl (lv_at hl 1 rfl) ?_
  refine lv_iload_n hx hb d_M_readFault_2 rfl (lv_at hl 2 rfl) ?_
  refine M_ro S (c_M_isBlock l D ca o sa fs g x y hB) k_M_78 rfl hP hK rfl rfl hl.1 ⟨Nat.le_of_ble_eq_true rfl, Nat.le_of_ble_eq_true rfl⟩ ⟨Nat.zero_le _, Nat.zero_le _⟩ (Nat.le_of_ble_eq_true rfl) d_M_readFault_3 ?_
  refine lv_if_ne (tgt := 13) hx hb d_M_readFault_6 (by decide) (fun c_6 => ?_) (fun c_6 => ?_)
  · refine lv_iload_n hx hb d_M_readFault_13 rfl (lv_at hl 3 rfl) ?_
    refine lv_iconst (v := 0) hx hb d_M_readFault_14 (by decide) ?_
    refine lv_iconst (v := 1) hx hb d_M_readFault_15 (by decide) ?_
    refine RO.callS S (c_M_in l D ca  z 0 1 ) k_M_26 hK rfl rfl hl.1 ⟨Nat.le_of_ble_eq_true rfl, Nat.le_of_ble_eq_true rfl⟩ ⟨Nat.zero_le _, Nat.zero_le _⟩ (Nat.le_of_ble_eq_true rfl) d_M_readFault_16 ?_
    refine lv_if_eq (tgt := 26) hx hb d_M_readFault_19 (by decide) (fun c_19 => ?_) (fun c_19 => ?_)
    · refine lv_bipush (v := (-2)) hx hb d_M_readFault_26 (by decide) ?_
      exact hret _ _ _ d_M_readFault_28 rfl (by first | (simp only [m_rf, c_6, c_19, ↓reduceIte]; done) | (simp only [m_rf, c_6, c_19, ↓reduceIte]; rfl) | rfl)
    · refine lv_iconst (v := 0) hx hb d_M_readFault_22 (by decide) ?_
      refine lv_goto (tgt := 28) hx hb d_M_readFault_23 (by decide) ?_
      exact hret _ _ _ d_M_readFault_28 rfl (by first | (simp only [m_rf, c_6, c_19, ↓reduceIte]; done) | (simp only [m_rf, c_6, c_19, ↓reduceIte]; rfl) | rfl)
  · refine lv_iconst (v := (-1)) hx hb d_M_readFault_9 (by decide) ?_
    refine lv_goto (tgt := 28) hx hb d_M_readFault_10 (by decide) ?_
    exact hret _ _ _ d_M_readFault_28 rfl (by first | (simp only [m_rf, c_6, ↓reduceIte]; done) | (simp only [m_rf, c_6, ↓reduceIte]; rfl) | rfl)
set_option maxHeartbeats 4000000 in
set_option maxRecDepth 100000 in
theorem c_M_reads (l : Launch) (D : va_G) (ca : Nat → ClassId) (o sa : Nat) (fs : List Value) (g : Nat → Int32) (f b w : Nat) (hf : f < 2) (hb20 : b < 20) (hw : w < 2): MI l y_M_reads b_M_reads 4 (some .int) 6 137 D ca [.ref o, .int (nI f), .int (nI b), .int (nI w)] (mw ca o sa fs g) ((m_rv g f b w).1) (mw ca o sa fs ((m_rv g f b w).2)) := by
  refine MI.mk (ty := .int) rfl rfl (Nat.le_of_ble_eq_true rfl) ?_
  intro p e s m args below meth c Q A S hA hP hD hK
  obtain ⟨hx, hb, hml, hown, hts⟩ := id S
  intro hret ls hl0 hS
  have hl : lv_has ls 4 [(0, .ref o), (1, .int (nI f)), (2, .int (nI b)), (3, .int (nI w))] := hl0
  refine lv_aload_n hx hb d_M_reads_0 rfl (lv_at hl 0 rfl) ?_
  refine lv_aload_n hx hb d_M_reads_1 rfl (lv_at hl 0 rfl) ?_
  refine lv_iload_n hx hb d_M_reads_2 rfl (lv_at hl 1 rfl) ?_
  refine lv_iload_n hx hb d_M_reads_3 rfl (lv_at hl 2 rfl) ?_
  refine lv_iload_n hx hb d_M_reads_4 rfl (lv_at hl 3 rfl) ?_
  refine lv_iconst (v := 1) hx hb d_M_reads_5 (by decide) ?_
  refine M_ro S (c_M_endOf l D ca o sa fs g f b w 1 (by omega) (by omega) (by omega) (by omega)) k_M_66 rfl hP hK rfl rfl hl.1 ⟨Nat.le_of_ble_eq_true rfl, Nat.le_of_ble_eq_true rfl⟩ ⟨Nat.zero_le _, Nat.zero_le _⟩ (Nat.le_of_ble_eq_true rfl) d_M_reads_6 ?_
  refine lv_tope (z := sr g f b w) (eo_1 hf hw) ?_
  refine M_mv S (c_M_travel l D ca o sa fs g (sr g f b w) ) k_M_74 rfl hP hD hS hA hK rfl rfl hl.1 ⟨Nat.le_of_ble_eq_true rfl, Nat.le_of_ble_eq_true rfl⟩ ⟨Nat.zero_le _, Nat.zero_le _⟩ (Nat.le_of_ble_eq_true rfl) d_M_reads_9 (fun H locs hP hD hS => ?_)
  obtain ⟨g1, hg1⟩ : ∃ z : Nat → Int32, z = tvm g (sr g f b w) := ⟨_, rfl⟩
  rw [← hg1] at hP hD
  refine lv_aload_n hx hb d_M_reads_12 rfl (lv_at hl 0 rfl) ?_
  refine lv_aload_n hx hb d_M_reads_13 rfl (lv_at hl 0 rfl) ?_
  refine lv_iload_n hx hb d_M_reads_14 rfl (lv_at hl 1 rfl) ?_
  refine lv_iload_n hx hb d_M_reads_15 rfl (lv_at hl 2 rfl) ?_
  refine lv_iload_n hx hb d_M_reads_16 rfl (lv_at hl 3 rfl) ?_
  refine lv_iconst (v := 0) hx hb d_M_reads_17 (by decide) ?_
  refine M_ro S (c_M_endOf l D ca o sa fs g1 f b w 0 (by omega) (by omega) (by omega) (by omega)) k_M_66 rfl hP hK rfl rfl hl.1 ⟨Nat.le_of_ble_eq_true rfl, Nat.le_of_ble_eq_true rfl⟩ ⟨Nat.zero_le _, Nat.zero_le _⟩ (Nat.le_of_ble_eq_true rfl) d_M_reads_18 ?_
  refine lv_tope (z := sr g1 f b (1 - w)) (eo_0 hf hw) ?_
  refine M_mv S (c_M_travel l D ca o sa fs g1 (sr g1 f b (1 - w)) ) k_M_74 rfl hP hD hS hA hK rfl rfl hl.1 ⟨Nat.le_of_ble_eq_true rfl, Nat.le_of_ble_eq_true rfl⟩ ⟨Nat.zero_le _, Nat.zero_le _⟩ (Nat.le_of_ble_eq_true rfl) d_M_reads_21 (fun H locs hP hD hS => ?_)
  obtain ⟨g2, hg2⟩ : ∃ z : Nat → Int32, z = tvm g1 (sr g1 f b (1 - w)) := ⟨_, rfl⟩
  rw [← hg2] at hP hD
  refine lv_aload_n hx hb d_M_reads_24 rfl (lv_at hl 0 rfl) ?_
  refine f_get S cls_M hK hP 0 rfl 0 (by decide) fl_M_s rfl rfl d_M_reads_25 ?_
  refine lv_iload_n hx hb d_M_reads_28 rfl (lv_at hl 1 rfl) ?_
  refine lv_iload_n hx hb d_M_reads_29 rfl (lv_at hl 2 rfl) ?_
  refine lv_iconst (v := 3) hx hb d_M_reads_30 (by decide) ?_
  refine RO.callS S (c_M_of l D ca  f b 3 ) k_M_38 hK rfl rfl hl.1 ⟨Nat.le_of_ble_eq_true rfl, Nat.le_of_ble_eq_true rfl⟩ ⟨Nat.zero_le _, Nat.zero_le _⟩ (Nat.le_of_ble_eq_true rfl) d_M_reads_31 ?_
  refine lv_dup2_11 hx hb d_M_reads_34 rfl rfl ?_
  refine M_ld S hK hP (r := 10 + 4 * (f * 20 + b) + 3) (by omega) rfl d_M_reads_35 ?_
  refine lv_iconst (v := 1) hx hb d_M_reads_36 (by decide) ?_
  refine lv_iadd hx hb d_M_reads_37 ?_
  refine M_st S hK hP hD hS (r := 10 + 4 * (f * 20 + b) + 3) (by omega) rfl d_M_reads_38 (fun H locs hP hD hS => ?_)
  obtain ⟨g3, hg3⟩ : ∃ z : Nat → Int32, z = upd g2 (10 + 4 * (f * 20 + b) + 3) ((g2 (10 + 4 * (f * 20 + b) + 3)) + 1) := ⟨_, rfl⟩
  rw [← hg3] at hP hD
  refine lv_aload_n hx hb d_M_reads_39 rfl (lv_at hl 0 rfl) ?_
  refine f_get S cls_M hK hP 0 rfl 0 (by decide) fl_M_s rfl rfl d_M_reads_40 ?_
  refine lv_bipush (v := 7) hx hb d_M_reads_43 (by decide) ?_
  refine lv_dup2_11 hx hb d_M_reads_45 rfl rfl ?_
  refine M_ld S hK hP (r := 7) (by omega) rfl d_M_reads_46 ?_
  refine lv_iconst (v := 1) hx hb d_M_reads_47 (by decide) ?_
  refine lv_iadd hx hb d_M_reads_48 ?_
  refine M_st S hK hP hD hS (r := 7) (by omega) rfl d_M_reads_49 (fun H locs hP hD hS => ?_)
  obtain ⟨g4, hg4⟩ : ∃ z : Nat → Int32, z = upd g3 7 ((g3 7) + 1) := ⟨_, rfl⟩
  rw [← hg4] at hP hD
  refine lv_aload_n hx hb d_M_reads_50 rfl (lv_at hl 0 rfl) ?_
  refine f_get S cls_M hK hP 0 rfl 0 (by decide) fl_M_s rfl rfl d_M_reads_51 ?_
  refine lv_iload_n hx hb d_M_reads_54 rfl (lv_at hl 1 rfl) ?_
  refine lv_iload_n hx hb d_M_reads_55 rfl (lv_at hl 2 rfl) ?_
  refine lv_iconst (v := 1) hx hb d_M_reads_56 (by decide) ?_
  refine RO.callS S (c_M_of l D ca  f b 1 ) k_M_38 hK rfl rfl hl.1 ⟨Nat.le_of_ble_eq_true rfl, Nat.le_of_ble_eq_true rfl⟩ ⟨Nat.zero_le _, Nat.zero_le _⟩ (Nat.le_of_ble_eq_true rfl) d_M_reads_57 ?_
  refine M_ld S hK hP (r := 10 + 4 * (f * 20 + b) + 1) (by omega) rfl d_M_reads_60 ?_
  refine lv_iload_n hx hb d_M_reads_61 rfl (lv_at hl 2 rfl) ?_
  refine lv_iadd hx hb d_M_reads_62 ?_
  refine lv_iload_n hx hb d_M_reads_63 rfl (lv_at hl 3 rfl) ?_
  refine lv_iadd hx hb d_M_reads_64 ?_
  refine lv_bipush (v := 10) hx hb d_M_reads_65 (by decide) ?_
  refine lv_irem hx hb d_M_reads_67 (by decide) ?_
  exact hret _ _ _ _ _ _ d_M_reads_68 rfl (by subst hg1 hg2 hg3 hg4; first | (simp only [m_rv, rem10, ↓reduceIte]; done) | (simp only [m_rv, rem10, ↓reduceIte]; rfl) | rfl) (by subst hg1 hg2 hg3 hg4; first | (simp only [m_rv, rem10, ↓reduceIte]; done) | (simp only [m_rv, rem10, ↓reduceIte]; rfl) | rfl) hP hD hS
set_option maxHeartbeats 4000000 in
set_option maxRecDepth 100000 in
theorem c_M_within (l : Launch) (D : va_G) (ca : Nat → ClassId) (o sa : Nat) (fs : List Value) (g : Nat → Int32) (x y : Int32) (hB : BN g): RO l y_M_within b_M_within 7 (some .int) 5 112 D ca [.ref o, .int x, .int y] (mw ca o sa fs g) (m_wi g x y) := by
  refine RO.mk (ty := .int) rfl rfl (Nat.le_of_ble_eq_true rfl) ?_
  intro p e s m args below meth c Q S hP hK
  obtain ⟨hx, hb, hml, hown, hts⟩ := id S
  intro hret ls hl0
  have hl : lv_has ls 7 [(0, .ref o), (1, .int x), (2, .int y)] := hl0
  refine lv_iload_n hx hb d_M_within_0 rfl (lv_at hl 1 rfl) ?_
  refine lv_aload_n hx hb d_M_within_1 rfl (lv_at hl 0 rfl) ?_
  refine lv_iconst (v := 0) hx hb d_M_within_2 (by decide) ?_
  refine M_ro S (c_M_end l D ca o sa fs g 0 hB (by omega)) k_M_53 rfl hP hK rfl rfl hl.1 ⟨Nat.le_of_ble_eq_true rfl, Nat.le_of_ble_eq_true rfl⟩ ⟨Nat.zero_le _, Nat.zero_le _⟩ (Nat.le_of_ble_eq_true rfl) d_M_within_3 ?_
  refine lv_icmp_lt (tgt := 20) hx hb d_M_within_6 (by decide) (fun c_6 => ?_) (fun c_6 => ?_)
  · refine lv_iconst (v := 0) hx hb d_M_within_20 (by decide) ?_
    refine lv_istore_n (lv' := [(3, .int 0), (0, .ref o), (1, .int x), (2, .int y)]) hx hb d_M_within_21 rfl hl (by decide) rfl (fun ls hl => ?_)
    have hE0 : m_wi g x y = wlp g x y 40 0 := by simp only [m_wi, c_6, ↓reduceIte]
    suffices lp : ∀ (r k : Nat), 40 - k < r → k ≤ 40 → m_wi g x y = wlp g x y (40 - k) k → ∀ ls : Array Slot, lv_has ls 7 [(3, .int (nI k)), (0, .ref o), (1, .int x), (2, .int y)] → W p l e (rm 5 112 0 0) s m args below meth c s.heap [] 0 0 Q (F0 m 22 ls []) from lp 41 0 (by omega) (by omega) hE0 _ (lv_sub hl [0, 1, 2, 3] rfl)
    intro r
    induction r with
    | zero => intro k hk; omega
    | succ r ih =>
      intro k hk hkn hE ls hl
      refine lv_iload_n hx hb d_M_within_22 rfl (lv_at hl 0 rfl) ?_
      refine lv_bipush (v := 40) hx hb d_M_within_23 (by decide) ?_
      refine lv_icmp_ge (tgt := 108) hx hb d_M_within_25 (by decide) (fun c_25 => ?_) (fun c_25 => ?_)
      · have e_25 : 40 ≤ k := le_of_nI (by omega) (by omega) (show nI 40 ≤ nI k from c_25)
        obtain rfl : k = 40 := by omega
        refine lv_bipush (v := (-6)) hx hb d_M_within_108 (by decide) ?_
        exact hret _ _ _ d_M_within_110 rfl (by rw [hE]; rfl)
      · have e_25 : k < 40 := nle_lt (by omega) (by omega) (show ¬ nI 40 ≤ nI k from c_25)
        have hf : k / 20 < 2 := by omega
        have hn := (hB (k / 20) hf).2
        have hE1 : wlp g x y (40 - k) k = wlp g x y ((40 - (k + 1)) + 1) k := by rw [show 40 - k = (40 - (k + 1)) + 1 by omega]
        refine lv_iload_n hx hb d_M_within_28 rfl (lv_at hl 0 rfl) ?_
        refine lv_bipush (v := 20) hx hb d_M_within_29 (by decide) ?_
        refine lv_idiv hx hb d_M_within_31 (by decide) ?_
        refine lv_tope (z := nI (k / 20)) (pk_div (by omega) (by decide) (by decide)) ?_
        refine lv_istore (lv' := [(4, .int (nI (k / 20))), (3, .int (nI k)), (0, .ref o), (1, .int x), (2, .int y)]) hx hb d_M_within_32 hl (by decide) rfl (fun ls hl => ?_)
        refine lv_iload_n hx hb d_M_within_34 rfl (lv_at hl 1 rfl) ?_
        refine lv_bipush (v := 20) hx hb d_M_within_35 (by decide) ?_
        refine lv_irem hx hb d_M_within_37 (by decide) ?_
        refine lv_tope (z := nI (k % 20)) (pk_rem (by omega) (by decide) (by decide)) ?_
        refine lv_istore (lv' := [(5, .int (nI (k % 20))), (4, .int (nI (k / 20))), (3, .int (nI k)), (0, .ref o), (1, .int x), (2, .int y)]) hx hb d_M_within_38 hl (by decide) rfl (fun ls hl => ?_)
        refine lv_iload hx hb d_M_within_40 (lv_at hl 0 rfl) ?_
        refine lv_aload_n hx hb d_M_within_42 rfl (lv_at hl 3 rfl) ?_
        refine f_get S cls_M hK hP 0 rfl 0 (by decide) fl_M_s rfl rfl d_M_within_43 ?_
        refine lv_bipush (v := 8) hx hb d_M_within_46 (by decide) ?_
        refine lv_iload hx hb d_M_within_48 (lv_at hl 1 rfl) ?_
        refine lv_iadd hx hb d_M_within_50 ?_
        refine lv_tope (z := nI (8 + (k / 20))) (nI_add 8 (k / 20)) ?_
        refine M_ld S hK hP (r := 8 + (k / 20)) (by omega) rfl d_M_within_51 ?_
        refine lv_tope (z := nI (bn g (k / 20))) ((hB (k / 20) hf).1) ?_
        refine lv_icmp_ge (tgt := 102) hx hb d_M_within_52 (by decide) (fun c_52 => ?_) (fun c_52 => ?_)
        · have hE2 : m_wi g x y = wlp g x y (40 - (k + 1)) (k + 1) := by
            rw [hE, hE1]
            simp only [wlp, c_52, ↓reduceIte]
          refine lv_iinc (v := nI (k + 1)) (lv' := [(3, .int (nI (k + 1))), (5, .int (nI (k % 20))), (4, .int (nI (k / 20))), (0, .ref o), (1, .int x), (2, .int y)]) hx hb d_M_within_102 hl (k := 2) rfl (nI_1 k) (by decide) rfl (fun ls hl => ?_)
          refine lv_goto (tgt := 22) hx hb d_M_within_105 (by decide) ?_
          exact ih (k + 1) (by omega) (by omega) hE2 _ (lv_sub hl [0, 3, 4, 5] rfl)
        · have e_52 : k % 20 < bn g (k / 20) := nle_lt (by omega) (by omega) c_52
          refine lv_aload_n hx hb d_M_within_55 rfl (lv_at hl 3 rfl) ?_
          refine f_get S cls_M hK hP 0 rfl 0 (by decide) fl_M_s rfl rfl d_M_within_56 ?_
          refine lv_iload hx hb d_M_within_59 (lv_at hl 1 rfl) ?_
          refine lv_iload hx hb d_M_within_61 (lv_at hl 0 rfl) ?_
          refine lv_iconst (v := 2) hx hb d_M_within_63 (by decide) ?_
          refine RO.callS S (c_M_of l D ca  (k / 20) (k % 20) 2 ) k_M_38 hK rfl rfl hl.1 ⟨Nat.le_of_ble_eq_true rfl, Nat.le_of_ble_eq_true rfl⟩ ⟨Nat.zero_le _, Nat.zero_le _⟩ (Nat.le_of_ble_eq_true rfl) d_M_within_64 ?_
          refine M_ld S hK hP (r := 10 + 4 * ((k / 20) * 20 + (k % 20)) + 2) (by omega) rfl d_M_within_67 ?_
          refine lv_istore (lv' := [(6, .int (g (10 + 4 * ((k / 20) * 20 + (k % 20)) + 2))), (5, .int (nI (k % 20))), (4, .int (nI (k / 20))), (3, .int (nI k)), (0, .ref o), (1, .int x), (2, .int y)]) hx hb d_M_within_68 hl (by decide) rfl (fun ls hl => ?_)
          refine lv_iload_n hx hb d_M_within_70 rfl (lv_at hl 5 rfl) ?_
          refine lv_aload_n hx hb d_M_within_71 rfl (lv_at hl 4 rfl) ?_
          refine lv_iload hx hb d_M_within_72 (lv_at hl 2 rfl) ?_
          refine lv_iload hx hb d_M_within_74 (lv_at hl 1 rfl) ?_
          refine M_ro S (c_M_lower l D ca o sa fs g (k / 20) (k % 20) (by omega) (by omega)) k_M_56 rfl hP hK rfl rfl hl.1 ⟨Nat.le_of_ble_eq_true rfl, Nat.le_of_ble_eq_true rfl⟩ ⟨Nat.zero_le _, Nat.zero_le _⟩ (Nat.le_of_ble_eq_true rfl) d_M_within_76 ?_
          refine lv_iload hx hb d_M_within_79 (lv_at hl 0 rfl) ?_
          refine lv_iadd hx hb d_M_within_81 ?_
          refine lv_tope (z := fd g (k / 20) (k % 20)) (rfl) ?_
          refine lv_icmp_lt (tgt := 102) hx hb d_M_within_82 (by decide) (fun c_82 => ?_) (fun c_82 => ?_)
          · have hE2 : m_wi g x y = wlp g x y (40 - (k + 1)) (k + 1) := by
              rw [hE, hE1]
              simp only [wlp, c_52, c_82, ↓reduceIte]
            refine lv_iinc (v := nI (k + 1)) (lv' := [(3, .int (nI (k + 1))), (6, .int (g (10 + 4 * ((k / 20) * 20 + (k % 20)) + 2))), (5, .int (nI (k % 20))), (4, .int (nI (k / 20))), (0, .ref o), (1, .int x), (2, .int y)]) hx hb d_M_within_102 hl (k := 3) rfl (nI_1 k) (by decide) rfl (fun ls hl => ?_)
            refine lv_goto (tgt := 22) hx hb d_M_within_105 (by decide) ?_
            exact ih (k + 1) (by omega) (by omega) hE2 _ (lv_sub hl [0, 4, 5, 6] rfl)
          · refine lv_iload_n hx hb d_M_within_85 rfl (lv_at hl 6 rfl) ?_
            refine lv_aload_n hx hb d_M_within_86 rfl (lv_at hl 4 rfl) ?_
            refine lv_iload hx hb d_M_within_87 (lv_at hl 2 rfl) ?_
            refine lv_iload hx hb d_M_within_89 (lv_at hl 1 rfl) ?_
            refine M_ro S (c_M_upper l D ca o sa fs g (k / 20) (k % 20) (by omega) (by omega)) k_M_63 rfl hP hK rfl rfl hl.1 ⟨Nat.le_of_ble_eq_true rfl, Nat.le_of_ble_eq_true rfl⟩ ⟨Nat.zero_le _, Nat.zero_le _⟩ (Nat.le_of_ble_eq_true rfl) d_M_within_91 ?_
            refine lv_iload hx hb d_M_within_94 (lv_at hl 0 rfl) ?_
            refine lv_isub hx hb d_M_within_96 ?_
            refine lv_icmp_ge (tgt := 102) hx hb d_M_within_97 (by decide) (fun c_97 => ?_) (fun c_97 => ?_)
            · have hE2 : m_wi g x y = wlp g x y (40 - (k + 1)) (k + 1) := by
                rw [hE, hE1]
                simp only [wlp, c_52, c_82, c_97, ↓reduceIte]
              refine lv_iinc (v := nI (k + 1)) (lv' := [(3, .int (nI (k + 1))), (6, .int (g (10 + 4 * ((k / 20) * 20 + (k % 20)) + 2))), (5, .int (nI (k % 20))), (4, .int (nI (k / 20))), (0, .ref o), (1, .int x), (2, .int y)]) hx hb d_M_within_102 hl (k := 3) rfl (nI_1 k) (by decide) rfl (fun ls hl => ?_)
              refine lv_goto (tgt := 22) hx hb d_M_within_105 (by decide) ?_
              exact ih (k + 1) (by omega) (by omega) hE2 _ (lv_sub hl [0, 4, 5, 6] rfl)
            · refine lv_iload_n hx hb d_M_within_100 rfl (lv_at hl 3 rfl) ?_
              exact hret _ _ _ d_M_within_101 rfl (by rw [hE, hE1]; simp only [wlp, c_52, c_82, c_97, ↓reduceIte])
  · refine lv_iload_n hx hb d_M_within_9 rfl (lv_at hl 2 rfl) ?_
    refine lv_aload_n hx hb d_M_within_10 rfl (lv_at hl 0 rfl) ?_
    refine lv_iconst (v := 1) hx hb d_M_within_11 (by decide) ?_
    refine M_ro S (c_M_end l D ca o sa fs g 1 hB (by omega)) k_M_53 rfl hP hK rfl rfl hl.1 ⟨Nat.le_of_ble_eq_true rfl, Nat.le_of_ble_eq_true rfl⟩ ⟨Nat.zero_le _, Nat.zero_le _⟩ (Nat.le_of_ble_eq_true rfl) d_M_within_12 ?_
    refine lv_icmp_ge (tgt := 20) hx hb d_M_within_15 (by decide) (fun c_15 => ?_) (fun c_15 => ?_)
    · refine lv_iconst (v := 0) hx hb d_M_within_20 (by decide) ?_
      refine lv_istore_n (lv' := [(3, .int 0), (0, .ref o), (1, .int x), (2, .int y)]) hx hb d_M_within_21 rfl hl (by decide) rfl (fun ls hl => ?_)
      have hE0 : m_wi g x y = wlp g x y 40 0 := by simp only [m_wi, c_6, c_15, ↓reduceIte]
      suffices lp : ∀ (r k : Nat), 40 - k < r → k ≤ 40 → m_wi g x y = wlp g x y (40 - k) k → ∀ ls : Array Slot, lv_has ls 7 [(3, .int (nI k)), (0, .ref o), (1, .int x), (2, .int y)] → W p l e (rm 5 112 0 0) s m args below meth c s.heap [] 0 0 Q (F0 m 22 ls []) from lp 41 0 (by omega) (by omega) hE0 _ (lv_sub hl [0, 1, 2, 3] rfl)
      intro r
      induction r with
      | zero => intro k hk; omega
      | succ r ih =>
        intro k hk hkn hE ls hl
        refine lv_iload_n hx hb d_M_within_22 rfl (lv_at hl 0 rfl) ?_
        refine lv_bipush (v := 40) hx hb d_M_within_23 (by decide) ?_
        refine lv_icmp_ge (tgt := 108) hx hb d_M_within_25 (by decide) (fun c_25 => ?_) (fun c_25 => ?_)
        · have e_25 : 40 ≤ k := le_of_nI (by omega) (by omega) (show nI 40 ≤ nI k from c_25)
          obtain rfl : k = 40 := by omega
          refine lv_bipush (v := (-6)) hx hb d_M_within_108 (by decide) ?_
          exact hret _ _ _ d_M_within_110 rfl (by rw [hE]; rfl)
        · have e_25 : k < 40 := nle_lt (by omega) (by omega) (show ¬ nI 40 ≤ nI k from c_25)
          have hf : k / 20 < 2 := by omega
          have hn := (hB (k / 20) hf).2
          have hE1 : wlp g x y (40 - k) k = wlp g x y ((40 - (k + 1)) + 1) k := by rw [show 40 - k = (40 - (k + 1)) + 1 by omega]
          refine lv_iload_n hx hb d_M_within_28 rfl (lv_at hl 0 rfl) ?_
          refine lv_bipush (v := 20) hx hb d_M_within_29 (by decide) ?_
          refine lv_idiv hx hb d_M_within_31 (by decide) ?_
          refine lv_tope (z := nI (k / 20)) (pk_div (by omega) (by decide) (by decide)) ?_
          refine lv_istore (lv' := [(4, .int (nI (k / 20))), (3, .int (nI k)), (0, .ref o), (1, .int x), (2, .int y)]) hx hb d_M_within_32 hl (by decide) rfl (fun ls hl => ?_)
          refine lv_iload_n hx hb d_M_within_34 rfl (lv_at hl 1 rfl) ?_
          refine lv_bipush (v := 20) hx hb d_M_within_35 (by decide) ?_
          refine lv_irem hx hb d_M_within_37 (by decide) ?_
          refine lv_tope (z := nI (k % 20)) (pk_rem (by omega) (by decide) (by decide)) ?_
          refine lv_istore (lv' := [(5, .int (nI (k % 20))), (4, .int (nI (k / 20))), (3, .int (nI k)), (0, .ref o), (1, .int x), (2, .int y)]) hx hb d_M_within_38 hl (by decide) rfl (fun ls hl => ?_)
          refine lv_iload hx hb d_M_within_40 (lv_at hl 0 rfl) ?_
          refine lv_aload_n hx hb d_M_within_42 rfl (lv_at hl 3 rfl) ?_
          refine f_get S cls_M hK hP 0 rfl 0 (by decide) fl_M_s rfl rfl d_M_within_43 ?_
          refine lv_bipush (v := 8) hx hb d_M_within_46 (by decide) ?_
          refine lv_iload hx hb d_M_within_48 (lv_at hl 1 rfl) ?_
          refine lv_iadd hx hb d_M_within_50 ?_
          refine lv_tope (z := nI (8 + (k / 20))) (nI_add 8 (k / 20)) ?_
          refine M_ld S hK hP (r := 8 + (k / 20)) (by omega) rfl d_M_within_51 ?_
          refine lv_tope (z := nI (bn g (k / 20))) ((hB (k / 20) hf).1) ?_
          refine lv_icmp_ge (tgt := 102) hx hb d_M_within_52 (by decide) (fun c_52 => ?_) (fun c_52 => ?_)
          · have hE2 : m_wi g x y = wlp g x y (40 - (k + 1)) (k + 1) := by
              rw [hE, hE1]
              simp only [wlp, c_52, ↓reduceIte]
            refine lv_iinc (v := nI (k + 1)) (lv' := [(3, .int (nI (k + 1))), (5, .int (nI (k % 20))), (4, .int (nI (k / 20))), (0, .ref o), (1, .int x), (2, .int y)]) hx hb d_M_within_102 hl (k := 2) rfl (nI_1 k) (by decide) rfl (fun ls hl => ?_)
            refine lv_goto (tgt := 22) hx hb d_M_within_105 (by decide) ?_
            exact ih (k + 1) (by omega) (by omega) hE2 _ (lv_sub hl [0, 3, 4, 5] rfl)
          · have e_52 : k % 20 < bn g (k / 20) := nle_lt (by omega) (by omega) c_52
            refine lv_aload_n hx hb d_M_within_55 rfl (lv_at hl 3 rfl) ?_
            refine f_get S cls_M hK hP 0 rfl 0 (by decide) fl_M_s rfl rfl d_M_within_56 ?_
            refine lv_iload hx hb d_M_within_59 (lv_at hl 1 rfl) ?_
            refine lv_iload hx hb d_M_within_61 (lv_at hl 0 rfl) ?_
            refine lv_iconst (v := 2) hx hb d_M_within_63 (by decide) ?_
            refine RO.callS S (c_M_of l D ca  (k / 20) (k % 20) 2 ) k_M_38 hK rfl rfl hl.1 ⟨Nat.le_of_ble_eq_true rfl, Nat.le_of_ble_eq_true rfl⟩ ⟨Nat.zero_le _, Nat.zero_le _⟩ (Nat.le_of_ble_eq_true rfl) d_M_within_64 ?_
            refine M_ld S hK hP (r := 10 + 4 * ((k / 20) * 20 + (k % 20)) + 2) (by omega) rfl d_M_within_67 ?_
            refine lv_istore (lv' := [(6, .int (g (10 + 4 * ((k / 20) * 20 + (k % 20)) + 2))), (5, .int (nI (k % 20))), (4, .int (nI (k / 20))), (3, .int (nI k)), (0, .ref o), (1, .int x), (2, .int y)]) hx hb d_M_within_68 hl (by decide) rfl (fun ls hl => ?_)
            refine lv_iload_n hx hb d_M_within_70 rfl (lv_at hl 5 rfl) ?_
            refine lv_aload_n hx hb d_M_within_71 rfl (lv_at hl 4 rfl) ?_
            refine lv_iload hx hb d_M_within_72 (lv_at hl 2 rfl) ?_
            refine lv_iload hx hb d_M_within_74 (lv_at hl 1 rfl) ?_
            refine M_ro S (c_M_lower l D ca o sa fs g (k / 20) (k % 20) (by omega) (by omega)) k_M_56 rfl hP hK rfl rfl hl.1 ⟨Nat.le_of_ble_eq_true rfl, Nat.le_of_ble_eq_true rfl⟩ ⟨Nat.zero_le _, Nat.zero_le _⟩ (Nat.le_of_ble_eq_true rfl) d_M_within_76 ?_
            refine lv_iload hx hb d_M_within_79 (lv_at hl 0 rfl) ?_
            refine lv_iadd hx hb d_M_within_81 ?_
            refine lv_tope (z := fd g (k / 20) (k % 20)) (rfl) ?_
            refine lv_icmp_lt (tgt := 102) hx hb d_M_within_82 (by decide) (fun c_82 => ?_) (fun c_82 => ?_)
            · have hE2 : m_wi g x y = wlp g x y (40 - (k + 1)) (k + 1) := by
                rw [hE, hE1]
                simp only [wlp, c_52, c_82, ↓reduceIte]
              refine lv_iinc (v := nI (k + 1)) (lv' := [(3, .int (nI (k + 1))), (6, .int (g (10 + 4 * ((k / 20) * 20 + (k % 20)) + 2))), (5, .int (nI (k % 20))), (4, .int (nI (k / 20))), (0, .ref o), (1, .int x), (2, .int y)]) hx hb d_M_within_102 hl (k := 3) rfl (nI_1 k) (by decide) rfl (fun ls hl => ?_)
              refine lv_goto (tgt := 22) hx hb d_M_within_105 (by decide) ?_
              exact ih (k + 1) (by omega) (by omega) hE2 _ (lv_sub hl [0, 4, 5, 6] rfl)
            · refine lv_iload_n hx hb d_M_within_85 rfl (lv_at hl 6 rfl) ?_
              refine lv_aload_n hx hb d_M_within_86 rfl (lv_at hl 4 rfl) ?_
              refine lv_iload hx hb d_M_within_87 (lv_at hl 2 rfl) ?_
              refine lv_iload hx hb d_M_within_89 (lv_at hl 1 rfl) ?_
              refine M_ro S (c_M_upper l D ca o sa fs g (k / 20) (k % 20) (by omega) (by omega)) k_M_63 rfl hP hK rfl rfl hl.1 ⟨Nat.le_of_ble_eq_true rfl, Nat.le_of_ble_eq_true rfl⟩ ⟨Nat.zero_le _, Nat.zero_le _⟩ (Nat.le_of_ble_eq_true rfl) d_M_within_91 ?_
              refine lv_iload hx hb d_M_within_94 (lv_at hl 0 rfl) ?_
              refine lv_isub hx hb d_M_within_96 ?_
              refine lv_icmp_ge (tgt := 102) hx hb d_M_within_97 (by decide) (fun c_97 => ?_) (fun c_97 => ?_)
              · have hE2 : m_wi g x y = wlp g x y (40 - (k + 1)) (k + 1) := by
                  rw [hE, hE1]
                  simp only [wlp, c_52, c_82, c_97, ↓reduceIte]
                refine lv_iinc (v := nI (k + 1)) (lv' := [(3, .int (nI (k + 1))), (6, .int (g (10 + 4 * ((k / 20) * 20 + (k % 20)) + 2))), (5, .int (nI (k % 20))), (4, .int (nI (k / 20))), (0, .ref o), (1, .int x), (2, .int y)]) hx hb d_M_within_102 hl (k := 3) rfl (nI_1 k) (by decide) rfl (fun ls hl => ?_)
                refine lv_goto (tgt := 22) hx hb d_M_within_105 (by decide) ?_
                exact ih (k + 1) (by omega) (by omega) hE2 _ (lv_sub hl [0, 4, 5, 6] rfl)
              · refine lv_iload_n hx hb d_M_within_100 rfl (lv_at hl 3 rfl) ?_
                exact hret _ _ _ d_M_within_101 rfl (by rw [hE, hE1]; simp only [wlp, c_52, c_82, c_97, ↓reduceIte])
    · refine lv_iconst (v := (-1)) hx hb d_M_within_18 (by decide) ?_
      exact hret _ _ _ d_M_within_19 rfl (by first | (simp only [m_wi, c_6, c_15, ↓reduceIte]; done) | (simp only [m_wi, c_6, c_15, ↓reduceIte]; rfl) | rfl)
set_option maxHeartbeats 4000000 in
set_option maxRecDepth 100000 in
theorem c_M_sum (l : Launch) (D : va_G) (ca : Nat → ClassId) (o sa : Nat) (fs : List Value) (g : Nat → Int32) (f k : Nat) (hB : BN g) (hf : f < 2) (hk : k < 4): RO l y_M_sum b_M_sum 5 (some .int) 1 22 D ca [.ref o, .int (nI f), .int (nI k)] (mw ca o sa fs g) (tot g k f (bn g f)) := by
  refine RO.mk (ty := .int) rfl rfl (Nat.le_of_ble_eq_true rfl) ?_
  intro p e s m args below meth c Q S hP hK
  obtain ⟨hx, hb, hml, hown, hts⟩ := id S
  intro hret ls hl0
  have hl : lv_has ls 5 [(0, .ref o), (1, .int (nI f)), (2, .int (nI k))] := hl0
  refine lv_iconst (v := 0) hx hb d_M_sum_0 (by decide) ?_
  refine lv_istore_n (lv' := [(3, .int 0), (0, .ref o), (1, .int (nI f)), (2, .int (nI k))]) hx hb d_M_sum_1 rfl hl (by decide) rfl (fun ls hl => ?_)
  refine lv_iconst (v := 0) hx hb d_M_sum_2 (by decide) ?_
  refine lv_istore (lv' := [(4, .int 0), (3, .int 0), (0, .ref o), (1, .int (nI f)), (2, .int (nI k))]) hx hb d_M_sum_3 hl (by decide) rfl (fun ls hl => ?_)
  have hn := (hB f hf).2
  suffices lp : ∀ (k1 i : Nat), bn g f - i < k1 → i ≤ bn g f → ∀ ls : Array Slot, lv_has ls 5 [(3, .int (tot g k f i)), (4, .int (nI i)), (0, .ref o), (1, .int (nI f)), (2, .int (nI k))] → W p l e (rm 1 22 0 0) s m args below meth c s.heap [] 0 0 Q (F0 m 5 ls []) from lp (bn g f + 1) 0 (by omega) (by omega) _ (lv_sub hl [1, 0, 2, 3, 4] rfl)
  intro k1
  induction k1 with
  | zero => intro i hi; omega
  | succ k1 ih =>
    intro i hi hin ls hl
    refine lv_iload hx hb d_M_sum_5 (lv_at hl 1 rfl) ?_
    refine lv_aload_n hx hb d_M_sum_7 rfl (lv_at hl 2 rfl) ?_
    refine f_get S cls_M hK hP 0 rfl 0 (by decide) fl_M_s rfl rfl d_M_sum_8 ?_
    refine lv_bipush (v := 8) hx hb d_M_sum_11 (by decide) ?_
    refine lv_iload_n hx hb d_M_sum_13 rfl (lv_at hl 3 rfl) ?_
    refine lv_iadd hx hb d_M_sum_14 ?_
    refine lv_tope (z := nI (8 + f)) (nI_add 8 f) ?_
    refine M_ld S hK hP (r := 8 + f) (by omega) rfl d_M_sum_15 ?_
    refine lv_tope (z := nI (bn g f)) ((hB f hf).1) ?_
    refine lv_icmp_ge (tgt := 40) hx hb d_M_sum_16 (by decide) (fun c_16 => ?_) (fun c_16 => ?_)
    · have e_8 : bn g f ≤ i := le_of_nI (by omega) (by omega) c_16
      obtain rfl : i = bn g f := by omega
      refine lv_iload_n hx hb d_M_sum_40 rfl (lv_at hl 0 rfl) ?_
      exact hret _ _ _ d_M_sum_41 rfl (by first | (simp only [c_16, ↓reduceIte]; done) | (simp only [c_16, ↓reduceIte]; rfl) | rfl)
    · have e_8 : i < bn g f := nle_lt (by omega) (by omega) c_16
      refine lv_iload_n hx hb d_M_sum_19 rfl (lv_at hl 0 rfl) ?_
      refine lv_aload_n hx hb d_M_sum_20 rfl (lv_at hl 2 rfl) ?_
      refine f_get S cls_M hK hP 0 rfl 0 (by decide) fl_M_s rfl rfl d_M_sum_21 ?_
      refine lv_iload_n hx hb d_M_sum_24 rfl (lv_at hl 3 rfl) ?_
      refine lv_iload hx hb d_M_sum_25 (lv_at hl 1 rfl) ?_
      refine lv_iload_n hx hb d_M_sum_27 rfl (lv_at hl 4 rfl) ?_
      refine RO.callS S (c_M_of l D ca  f i k ) k_M_38 hK rfl rfl hl.1 ⟨Nat.le_of_ble_eq_true rfl, Nat.le_of_ble_eq_true rfl⟩ ⟨Nat.zero_le _, Nat.zero_le _⟩ (Nat.le_of_ble_eq_true rfl) d_M_sum_28 ?_
      refine M_ld S hK hP (r := 10 + 4 * (f * 20 + i) + k) (by omega) rfl d_M_sum_31 ?_
      refine lv_iadd hx hb d_M_sum_32 ?_
      refine lv_istore_n (lv' := [(3, .int (tot g k f (i + 1))), (4, .int (nI i)), (0, .ref o), (1, .int (nI f)), (2, .int (nI k))]) hx hb d_M_sum_33 rfl hl (by decide) rfl (fun ls hl => ?_)
      refine lv_iinc (v := nI (i + 1)) (lv' := [(4, .int (nI (i + 1))), (3, .int (tot g k f (i + 1))), (0, .ref o), (1, .int (nI f)), (2, .int (nI k))]) hx hb d_M_sum_34 hl (k := 1) rfl (nI_1 i) (by decide) rfl (fun ls hl => ?_)
      refine lv_goto (tgt := 5) hx hb d_M_sum_37 (by decide) ?_
      exact ih (i + 1) (by omega) (by omega) _ (lv_sub hl [1, 0, 2, 3, 4] rfl)
set_option maxHeartbeats 4000000 in
set_option maxRecDepth 100000 in
theorem c_M_ofFile (l : Launch) (D : va_G) (ca : Nat → ClassId) (o sa : Nat) (fs : List Value) (g : Nat → Int32) (x y : Int32) (hB : BN g): RO l y_M_ofFile b_M_ofFile 3 (some .int) 5 110 D ca [.ref o, .int x, .int y] (mw ca o sa fs g) (afl g x y) := by
  refine RO.mk (ty := .int) rfl rfl (Nat.le_of_ble_eq_true rfl) ?_
  intro p e s m args below meth c Q S hP hK
  obtain ⟨hx, hb, hml, hown, hts⟩ := id S
  intro hret ls hl0
  have hl : lv_has ls 3 [(0, .ref o), (1, .int x), (2, .int y)] := hl0
  refine lv_iload_n hx hb d_M_ofFile_0 rfl (lv_at hl 1 rfl) ?_
  refine RO.callS S (c_M_isFile l D ca  x ) k_M_30 hK rfl rfl hl.1 ⟨Nat.le_of_ble_eq_true rfl, Nat.le_of_ble_eq_true rfl⟩ ⟨Nat.zero_le _, Nat.zero_le _⟩ (Nat.le_of_ble_eq_true rfl) d_M_ofFile_1 ?_
  refine lv_if_ne (tgt := 9) hx hb d_M_ofFile_4 (by decide) (fun c_4 => ?_) (fun c_4 => ?_)
  · obtain ⟨f, hf, rfl⟩ := isf_of c_4
    have hcl : (nI f).toNatClampNeg = f := nI_clamp (by omega)
    have hn20 := (hB f hf).2
    refine lv_iload_n hx hb d_M_ofFile_9 rfl (lv_at hl 2 rfl) ?_
    by_cases hsw : 0 ≤ y.toInt ∧ y.toInt ≤ 4
    · have hcs : y.toInt = 0 ∨ y.toInt = 1 ∨ y.toInt = 2 ∨ y.toInt = 3 ∨ y.toInt = 4 := by omega
      rcases hcs with hk | hk | hk | hk | hk
      · have hk2 : y = 0 := Int32.toInt_inj.mp (by rw [hk]; decide)
        subst hk2
        refine lv_tableIn (tgt := 44) (off := 34) hx hb d_M_ofFile_10 (by rw [hk]; decide) (by rw [hk]; decide) (by rw [hk]; rfl) (by decide) ?_
        refine lv_aload_n hx hb d_M_ofFile_44 rfl (lv_at hl 0 rfl) ?_
        refine f_get S cls_M hK hP 0 rfl 0 (by decide) fl_M_s rfl rfl d_M_ofFile_45 ?_
        refine lv_bipush (v := 8) hx hb d_M_ofFile_48 (by decide) ?_
        refine lv_iload_n hx hb d_M_ofFile_50 rfl (lv_at hl 1 rfl) ?_
        refine lv_iadd hx hb d_M_ofFile_51 ?_
        refine lv_tope (z := nI (8 + f)) (nI_add 8 f) ?_
        refine M_ld S hK hP (r := 8 + f) (by omega) rfl d_M_ofFile_52 ?_
        refine lv_tope (z := nI (bn g f)) ((hB f hf).1) ?_
        exact hret _ _ _ d_M_ofFile_53 rfl (by first | (simp only [afl, afv, c_4, hcl, ↓reduceIte]; done) | (simp only [afl, afv, c_4, hcl, ↓reduceIte]; rfl) | rfl)
      · have hk2 : y = 1 := Int32.toInt_inj.mp (by rw [hk]; decide)
        subst hk2
        refine lv_tableIn (tgt := 54) (off := 44) hx hb d_M_ofFile_10 (by rw [hk]; decide) (by rw [hk]; decide) (by rw [hk]; rfl) (by decide) ?_
        refine lv_aload_n hx hb d_M_ofFile_54 rfl (lv_at hl 0 rfl) ?_
        refine lv_iload_n hx hb d_M_ofFile_55 rfl (lv_at hl 1 rfl) ?_
        refine M_ro S (c_M_allFeet l D ca o sa fs g f hB (by omega)) k_M_49 rfl hP hK rfl rfl hl.1 ⟨Nat.le_of_ble_eq_true rfl, Nat.le_of_ble_eq_true rfl⟩ ⟨Nat.zero_le _, Nat.zero_le _⟩ (Nat.le_of_ble_eq_true rfl) d_M_ofFile_56 ?_
        exact hret _ _ _ d_M_ofFile_59 rfl (by first | (simp only [afl, afv, c_4, hcl, ↓reduceIte]; done) | (simp only [afl, afv, c_4, hcl, ↓reduceIte]; rfl) | rfl)
      · have hk2 : y = 2 := Int32.toInt_inj.mp (by rw [hk]; decide)
        subst hk2
        refine lv_tableIn (tgt := 60) (off := 50) hx hb d_M_ofFile_10 (by rw [hk]; decide) (by rw [hk]; decide) (by rw [hk]; rfl) (by decide) ?_
        refine lv_aload_n hx hb d_M_ofFile_60 rfl (lv_at hl 0 rfl) ?_
        refine lv_iload_n hx hb d_M_ofFile_61 rfl (lv_at hl 1 rfl) ?_
        refine lv_iconst (v := 0) hx hb d_M_ofFile_62 (by decide) ?_
        refine M_ro S (c_M_sum l D ca o sa fs g f 0 hB (by omega) (by omega)) k_M_112 rfl hP hK rfl rfl hl.1 ⟨Nat.le_of_ble_eq_true rfl, Nat.le_of_ble_eq_true rfl⟩ ⟨Nat.zero_le _, Nat.zero_le _⟩ (Nat.le_of_ble_eq_true rfl) d_M_ofFile_63 ?_
        exact hret _ _ _ d_M_ofFile_66 rfl (by first | (simp only [afl, afv, c_4, hcl, ↓reduceIte]; done) | (simp only [afl, afv, c_4, hcl, ↓reduceIte]; rfl) | rfl)
      · have hk2 : y = 3 := Int32.toInt_inj.mp (by rw [hk]; decide)
        subst hk2
        refine lv_tableIn (tgt := 67) (off := 57) hx hb d_M_ofFile_10 (by rw [hk]; decide) (by rw [hk]; decide) (by rw [hk]; rfl) (by decide) ?_
        refine lv_aload_n hx hb d_M_ofFile_67 rfl (lv_at hl 0 rfl) ?_
        refine lv_iload_n hx hb d_M_ofFile_68 rfl (lv_at hl 1 rfl) ?_
        refine M_ro S (c_M_end l D ca o sa fs g f hB (by omega)) k_M_53 rfl hP hK rfl rfl hl.1 ⟨Nat.le_of_ble_eq_true rfl, Nat.le_of_ble_eq_true rfl⟩ ⟨Nat.zero_le _, Nat.zero_le _⟩ (Nat.le_of_ble_eq_true rfl) d_M_ofFile_69 ?_
        exact hret _ _ _ d_M_ofFile_72 rfl (by first | (simp only [afl, afv, c_4, hcl, ↓reduceIte]; done) | (simp only [afl, afv, c_4, hcl, ↓reduceIte]; rfl) | rfl)
      · have hk2 : y = 4 := Int32.toInt_inj.mp (by rw [hk]; decide)
        subst hk2
        refine lv_tableIn (tgt := 73) (off := 63) hx hb d_M_ofFile_10 (by rw [hk]; decide) (by rw [hk]; decide) (by rw [hk]; rfl) (by decide) ?_
        refine lv_aload_n hx hb d_M_ofFile_73 rfl (lv_at hl 0 rfl) ?_
        refine lv_iload_n hx hb d_M_ofFile_74 rfl (lv_at hl 1 rfl) ?_
        refine lv_iconst (v := 1) hx hb d_M_ofFile_75 (by decide) ?_
        refine M_ro S (c_M_sum l D ca o sa fs g f 1 hB (by omega) (by omega)) k_M_112 rfl hP hK rfl rfl hl.1 ⟨Nat.le_of_ble_eq_true rfl, Nat.le_of_ble_eq_true rfl⟩ ⟨Nat.zero_le _, Nat.zero_le _⟩ (Nat.le_of_ble_eq_true rfl) d_M_ofFile_76 ?_
        exact hret _ _ _ d_M_ofFile_79 rfl (by first | (simp only [afl, afv, c_4, hcl, ↓reduceIte]; done) | (simp only [afl, afv, c_4, hcl, ↓reduceIte]; rfl) | rfl)
    · have hn_0 : ¬ y = 0 := fun q => hsw (by rw [q]; decide)
      have hn_1 : ¬ y = 1 := fun q => hsw (by rw [q]; decide)
      have hn_2 : ¬ y = 2 := fun q => hsw (by rw [q]; decide)
      have hn_3 : ¬ y = 3 := fun q => hsw (by rw [q]; decide)
      have hn_4 : ¬ y = 4 := fun q => hsw (by rw [q]; decide)
      refine lv_tableOut (tgt := 80) hx hb d_M_ofFile_10 (by omega) (by decide) ?_
      refine lv_bipush (v := (-2)) hx hb d_M_ofFile_80 (by decide) ?_
      exact hret _ _ _ d_M_ofFile_82 rfl (by first | (simp only [afl, afv, c_4, hcl, hn_0, hn_1, hn_2, hn_3, hn_4, ↓reduceIte]; done) | (simp only [afl, afv, c_4, hcl, hn_0, hn_1, hn_2, hn_3, hn_4, ↓reduceIte]; rfl) | rfl)
  · refine lv_iconst (v := (-1)) hx hb d_M_ofFile_7 (by decide) ?_
    exact hret _ _ _ d_M_ofFile_8 rfl (by first | (simp only [afl, afv, c_4, ↓reduceIte]; done) | (simp only [afl, afv, c_4, ↓reduceIte]; rfl) | rfl)
set_option maxHeartbeats 4000000 in
set_option maxRecDepth 100000 in
theorem c_M_ofBlock (l : Launch) (D : va_G) (ca : Nat → ClassId) (o sa : Nat) (fs : List Value) (g : Nat → Int32) (x y z : Int32) (hB : BN g): RO l y_M_ofBlock b_M_ofBlock 4 (some .int) 7 160 D ca [.ref o, .int x, .int y, .int z] (mw ca o sa fs g) (m_abl g x y z) := by
  refine RO.mk (ty := .int) rfl rfl (Nat.le_of_ble_eq_true rfl) ?_
  intro p e s m args below meth c Q S hP hK
  obtain ⟨hx, hb, hml, hown, hts⟩ := id S
  intro hret ls hl0
  have hl : lv_has ls 4 [(0, .ref o), (1, .int x), (2, .int y), (3, .int z)] := hl0
  refine lv_aload_n hx hb d_M_ofBlock_0 rfl (lv_at hl 0 rfl) ?_
  refine lv_iload_n hx hb d_M_ofBlock_1 rfl (lv_at hl 1 rfl) ?_
  refine lv_iload_n hx hb d_M_ofBlock_2 rfl (lv_at hl 2 rfl) ?_
  refine M_ro S (c_M_isBlock l D ca o sa fs g x y hB) k_M_78 rfl hP hK rfl rfl hl.1 ⟨Nat.le_of_ble_eq_true rfl, Nat.le_of_ble_eq_true rfl⟩ ⟨Nat.zero_le _, Nat.zero_le _⟩ (Nat.le_of_ble_eq_true rfl) d_M_ofBlock_3 ?_
  refine lv_if_ne (tgt := 11) hx hb d_M_ofBlock_6 (by decide) (fun c_6 => ?_) (fun c_6 => ?_)
  · obtain ⟨f, b, hf, hbn, rfl, rfl⟩ := ibk_of c_6 hB
    have hcl : (nI f).toNatClampNeg = f := nI_clamp (by omega)
    have hn20 := (hB f hf).2
    have hcb : (nI b).toNatClampNeg = b := nI_clamp (by omega)
    refine lv_iload_n hx hb d_M_ofBlock_11 rfl (lv_at hl 3 rfl) ?_
    by_cases hsw : 0 ≤ z.toInt ∧ z.toInt ≤ 7
    · have hcs : z.toInt = 0 ∨ z.toInt = 1 ∨ z.toInt = 2 ∨ z.toInt = 3 ∨ z.toInt = 4 ∨ z.toInt = 5 ∨ z.toInt = 6 ∨ z.toInt = 7 := by omega
      rcases hcs with hk | hk | hk | hk | hk | hk | hk | hk
      · have hk2 : z = 0 := Int32.toInt_inj.mp (by rw [hk]; decide)
        subst hk2
        refine lv_tableIn (tgt := 60) (off := 48) hx hb d_M_ofBlock_12 (by rw [hk]; decide) (by rw [hk]; decide) (by rw [hk]; rfl) (by decide) ?_
        refine lv_aload_n hx hb d_M_ofBlock_60 rfl (lv_at hl 0 rfl) ?_
        refine f_get S cls_M hK hP 0 rfl 0 (by decide) fl_M_s rfl rfl d_M_ofBlock_61 ?_
        refine lv_iload_n hx hb d_M_ofBlock_64 rfl (lv_at hl 1 rfl) ?_
        refine lv_iload_n hx hb d_M_ofBlock_65 rfl (lv_at hl 2 rfl) ?_
        refine lv_iload_n hx hb d_M_ofBlock_66 rfl (lv_at hl 3 rfl) ?_
        refine RO.callS S (c_M_of l D ca  f b 0 ) k_M_38 hK rfl rfl hl.1 ⟨Nat.le_of_ble_eq_true rfl, Nat.le_of_ble_eq_true rfl⟩ ⟨Nat.zero_le _, Nat.zero_le _⟩ (Nat.le_of_ble_eq_true rfl) d_M_ofBlock_67 ?_
        refine M_ld S hK hP (r := 10 + 4 * (f * 20 + b) + 0) (by omega) rfl d_M_ofBlock_70 ?_
        exact hret _ _ _ d_M_ofBlock_71 rfl (by first | (simp only [m_abl, m_abv, c_6, hcl, hcb, ↓reduceIte]; done) | (simp only [m_abl, m_abv, c_6, hcl, hcb, ↓reduceIte]; rfl) | rfl)
      · have hk2 : z = 1 := Int32.toInt_inj.mp (by rw [hk]; decide)
        subst hk2
        refine lv_tableIn (tgt := 60) (off := 48) hx hb d_M_ofBlock_12 (by rw [hk]; decide) (by rw [hk]; decide) (by rw [hk]; rfl) (by decide) ?_
        refine lv_aload_n hx hb d_M_ofBlock_60 rfl (lv_at hl 0 rfl) ?_
        refine f_get S cls_M hK hP 0 rfl 0 (by decide) fl_M_s rfl rfl d_M_ofBlock_61 ?_
        refine lv_iload_n hx hb d_M_ofBlock_64 rfl (lv_at hl 1 rfl) ?_
        refine lv_iload_n hx hb d_M_ofBlock_65 rfl (lv_at hl 2 rfl) ?_
        refine lv_iload_n hx hb d_M_ofBlock_66 rfl (lv_at hl 3 rfl) ?_
        refine RO.callS S (c_M_of l D ca  f b 1 ) k_M_38 hK rfl rfl hl.1 ⟨Nat.le_of_ble_eq_true rfl, Nat.le_of_ble_eq_true rfl⟩ ⟨Nat.zero_le _, Nat.zero_le _⟩ (Nat.le_of_ble_eq_true rfl) d_M_ofBlock_67 ?_
        refine M_ld S hK hP (r := 10 + 4 * (f * 20 + b) + 1) (by omega) rfl d_M_ofBlock_70 ?_
        exact hret _ _ _ d_M_ofBlock_71 rfl (by first | (simp only [m_abl, m_abv, c_6, hcl, hcb, ↓reduceIte]; done) | (simp only [m_abl, m_abv, c_6, hcl, hcb, ↓reduceIte]; rfl) | rfl)
      · have hk2 : z = 2 := Int32.toInt_inj.mp (by rw [hk]; decide)
        subst hk2
        refine lv_tableIn (tgt := 72) (off := 60) hx hb d_M_ofBlock_12 (by rw [hk]; decide) (by rw [hk]; decide) (by rw [hk]; rfl) (by decide) ?_
        refine lv_aload_n hx hb d_M_ofBlock_72 rfl (lv_at hl 0 rfl) ?_
        refine lv_iload_n hx hb d_M_ofBlock_73 rfl (lv_at hl 1 rfl) ?_
        refine lv_iload_n hx hb d_M_ofBlock_74 rfl (lv_at hl 2 rfl) ?_
        refine M_ro S (c_M_whole l D ca o sa fs g f b (by omega) (by omega)) k_M_42 rfl hP hK rfl rfl hl.1 ⟨Nat.le_of_ble_eq_true rfl, Nat.le_of_ble_eq_true rfl⟩ ⟨Nat.zero_le _, Nat.zero_le _⟩ (Nat.le_of_ble_eq_true rfl) d_M_ofBlock_75 ?_
        exact hret _ _ _ d_M_ofBlock_78 rfl (by first | (simp only [m_abl, m_abv, c_6, hcl, hcb, ↓reduceIte]; done) | (simp only [m_abl, m_abv, c_6, hcl, hcb, ↓reduceIte]; rfl) | rfl)
      · have hk2 : z = 3 := Int32.toInt_inj.mp (by rw [hk]; decide)
        subst hk2
        refine lv_tableIn (tgt := 79) (off := 67) hx hb d_M_ofBlock_12 (by rw [hk]; decide) (by rw [hk]; decide) (by rw [hk]; rfl) (by decide) ?_
        refine lv_aload_n hx hb d_M_ofBlock_79 rfl (lv_at hl 0 rfl) ?_
        refine lv_iload_n hx hb d_M_ofBlock_80 rfl (lv_at hl 1 rfl) ?_
        refine lv_iload_n hx hb d_M_ofBlock_81 rfl (lv_at hl 2 rfl) ?_
        refine M_ro S (c_M_lower l D ca o sa fs g f b (by omega) (by omega)) k_M_56 rfl hP hK rfl rfl hl.1 ⟨Nat.le_of_ble_eq_true rfl, Nat.le_of_ble_eq_true rfl⟩ ⟨Nat.zero_le _, Nat.zero_le _⟩ (Nat.le_of_ble_eq_true rfl) d_M_ofBlock_82 ?_
        exact hret _ _ _ d_M_ofBlock_85 rfl (by first | (simp only [m_abl, m_abv, c_6, hcl, hcb, ↓reduceIte]; done) | (simp only [m_abl, m_abv, c_6, hcl, hcb, ↓reduceIte]; rfl) | rfl)
      · have hk2 : z = 4 := Int32.toInt_inj.mp (by rw [hk]; decide)
        subst hk2
        refine lv_tableIn (tgt := 86) (off := 74) hx hb d_M_ofBlock_12 (by rw [hk]; decide) (by rw [hk]; decide) (by rw [hk]; rfl) (by decide) ?_
        refine lv_aload_n hx hb d_M_ofBlock_86 rfl (lv_at hl 0 rfl) ?_
        refine lv_iload_n hx hb d_M_ofBlock_87 rfl (lv_at hl 1 rfl) ?_
        refine lv_iload_n hx hb d_M_ofBlock_88 rfl (lv_at hl 2 rfl) ?_
        refine M_ro S (c_M_upper l D ca o sa fs g f b (by omega) (by omega)) k_M_63 rfl hP hK rfl rfl hl.1 ⟨Nat.le_of_ble_eq_true rfl, Nat.le_of_ble_eq_true rfl⟩ ⟨Nat.zero_le _, Nat.zero_le _⟩ (Nat.le_of_ble_eq_true rfl) d_M_ofBlock_89 ?_
        exact hret _ _ _ d_M_ofBlock_92 rfl (by first | (simp only [m_abl, m_abv, c_6, hcl, hcb, ↓reduceIte]; done) | (simp only [m_abl, m_abv, c_6, hcl, hcb, ↓reduceIte]; rfl) | rfl)
      · have hk2 : z = 5 := Int32.toInt_inj.mp (by rw [hk]; decide)
        subst hk2
        refine lv_tableIn (tgt := 93) (off := 81) hx hb d_M_ofBlock_12 (by rw [hk]; decide) (by rw [hk]; decide) (by rw [hk]; rfl) (by decide) ?_
        refine lv_aload_n hx hb d_M_ofBlock_93 rfl (lv_at hl 0 rfl) ?_
        refine f_get S cls_M hK hP 0 rfl 0 (by decide) fl_M_s rfl rfl d_M_ofBlock_94 ?_
        refine lv_iload_n hx hb d_M_ofBlock_97 rfl (lv_at hl 1 rfl) ?_
        refine lv_iload_n hx hb d_M_ofBlock_98 rfl (lv_at hl 2 rfl) ?_
        refine lv_iconst (v := 3) hx hb d_M_ofBlock_99 (by decide) ?_
        refine RO.callS S (c_M_of l D ca  f b 3 ) k_M_38 hK rfl rfl hl.1 ⟨Nat.le_of_ble_eq_true rfl, Nat.le_of_ble_eq_true rfl⟩ ⟨Nat.zero_le _, Nat.zero_le _⟩ (Nat.le_of_ble_eq_true rfl) d_M_ofBlock_100 ?_
        refine M_ld S hK hP (r := 10 + 4 * (f * 20 + b) + 3) (by omega) rfl d_M_ofBlock_103 ?_
        exact hret _ _ _ d_M_ofBlock_104 rfl (by first | (simp only [m_abl, m_abv, c_6, hcl, hcb, ↓reduceIte]; done) | (simp only [m_abl, m_abv, c_6, hcl, hcb, ↓reduceIte]; rfl) | rfl)
      · have hk2 : z = 6 := Int32.toInt_inj.mp (by rw [hk]; decide)
        subst hk2
        refine lv_tableIn (tgt := 105) (off := 93) hx hb d_M_ofBlock_12 (by rw [hk]; decide) (by rw [hk]; decide) (by rw [hk]; rfl) (by decide) ?_
        refine lv_aload_n hx hb d_M_ofBlock_105 rfl (lv_at hl 0 rfl) ?_
        refine lv_iload_n hx hb d_M_ofBlock_106 rfl (lv_at hl 1 rfl) ?_
        refine lv_iload_n hx hb d_M_ofBlock_107 rfl (lv_at hl 2 rfl) ?_
        refine lv_iload_n hx hb d_M_ofBlock_108 rfl (lv_at hl 3 rfl) ?_
        refine lv_bipush (v := 6) hx hb d_M_ofBlock_109 (by decide) ?_
        refine lv_isub hx hb d_M_ofBlock_111 ?_
        refine lv_tope (z := 0) (by decide) ?_
        refine M_ro S (c_M_travelTo l D ca o sa fs g f b 0 (by omega) (by omega) (by omega)) k_M_115 rfl hP hK rfl rfl hl.1 ⟨Nat.le_of_ble_eq_true rfl, Nat.le_of_ble_eq_true rfl⟩ ⟨Nat.zero_le _, Nat.zero_le _⟩ (Nat.le_of_ble_eq_true rfl) d_M_ofBlock_112 ?_
        exact hret _ _ _ d_M_ofBlock_115 rfl (by first | (simp only [m_abl, m_abv, c_6, hcl, hcb, ↓reduceIte]; done) | (simp only [m_abl, m_abv, c_6, hcl, hcb, ↓reduceIte]; rfl) | rfl)
      · have hk2 : z = 7 := Int32.toInt_inj.mp (by rw [hk]; decide)
        subst hk2
        refine lv_tableIn (tgt := 105) (off := 93) hx hb d_M_ofBlock_12 (by rw [hk]; decide) (by rw [hk]; decide) (by rw [hk]; rfl) (by decide) ?_
        refine lv_aload_n hx hb d_M_ofBlock_105 rfl (lv_at hl 0 rfl) ?_
        refine lv_iload_n hx hb d_M_ofBlock_106 rfl (lv_at hl 1 rfl) ?_
        refine lv_iload_n hx hb d_M_ofBlock_107 rfl (lv_at hl 2 rfl) ?_
        refine lv_iload_n hx hb d_M_ofBlock_108 rfl (lv_at hl 3 rfl) ?_
        refine lv_bipush (v := 6) hx hb d_M_ofBlock_109 (by decide) ?_
        refine lv_isub hx hb d_M_ofBlock_111 ?_
        refine lv_tope (z := 1) (by decide) ?_
        refine M_ro S (c_M_travelTo l D ca o sa fs g f b 1 (by omega) (by omega) (by omega)) k_M_115 rfl hP hK rfl rfl hl.1 ⟨Nat.le_of_ble_eq_true rfl, Nat.le_of_ble_eq_true rfl⟩ ⟨Nat.zero_le _, Nat.zero_le _⟩ (Nat.le_of_ble_eq_true rfl) d_M_ofBlock_112 ?_
        exact hret _ _ _ d_M_ofBlock_115 rfl (by first | (simp only [m_abl, m_abv, c_6, hcl, hcb, ↓reduceIte]; done) | (simp only [m_abl, m_abv, c_6, hcl, hcb, ↓reduceIte]; rfl) | rfl)
    · have hn_0 : ¬ z = 0 := fun q => hsw (by rw [q]; decide)
      have hn_1 : ¬ z = 1 := fun q => hsw (by rw [q]; decide)
      have hn_2 : ¬ z = 2 := fun q => hsw (by rw [q]; decide)
      have hn_3 : ¬ z = 3 := fun q => hsw (by rw [q]; decide)
      have hn_4 : ¬ z = 4 := fun q => hsw (by rw [q]; decide)
      have hn_5 : ¬ z = 5 := fun q => hsw (by rw [q]; decide)
      have hn_6 : ¬ z = 6 := fun q => hsw (by rw [q]; decide)
      have hn_7 : ¬ z = 7 := fun q => hsw (by rw [q]; decide)
      refine lv_tableOut (tgt := 116) hx hb d_M_ofBlock_12 (by omega) (by decide) ?_
      refine lv_bipush (v := (-2)) hx hb d_M_ofBlock_116 (by decide) ?_
      exact hret _ _ _ d_M_ofBlock_118 rfl (by first | (simp only [m_abl, m_abv, c_6, hcl, hcb, hn_0, hn_1, hn_2, hn_3, hn_4, hn_5, hn_6, hn_7, ↓reduceIte]; done) | (simp only [m_abl, m_abv, c_6, hcl, hcb, hn_0, hn_1, hn_2, hn_3, hn_4, hn_5, hn_6, hn_7, ↓reduceIte]; rfl) | rfl)
  · refine lv_iconst (v := (-1)) hx hb d_M_ofBlock_9 (by decide) ?_
    exact hret _ _ _ d_M_ofBlock_10 rfl (by first | (simp only [m_abl, m_abv, c_6, ↓reduceIte]; done) | (simp only [m_abl, m_abv, c_6, ↓reduceIte]; rfl) | rfl)
set_option maxHeartbeats 4000000 in
set_option maxRecDepth 100000 in
theorem c_M_at (l : Launch) (D : va_G) (ca : Nat → ClassId) (o sa : Nat) (fs : List Value) (g : Nat → Int32) (x : Int32) (hB : BN g): RO l y_M_at b_M_at 3 (some .int) 6 138 D ca [.ref o, .int x] (mw ca o sa fs g) (m_at g x) := by
  refine RO.mk (ty := .int) rfl rfl (Nat.le_of_ble_eq_true rfl) ?_
  intro p e s m args below meth c Q S hP hK
  obtain ⟨hx, hb, hml, hown, hts⟩ := id S
  intro hret ls hl0
  have hl : lv_has ls 3 [(0, .ref o), (1, .int x)] := hl0
  refine lv_iload_n hx hb d_M_at_0 rfl (lv_at hl 1 rfl) ?_
  refine lv_iconst (v := 0) hx hb d_M_at_1 (by decide) ?_
  refine lv_aload_n hx hb d_M_at_2 rfl (lv_at hl 0 rfl) ?_
  refine f_get S cls_M hK hP 0 rfl 0 (by decide) fl_M_s rfl rfl d_M_at_3 ?_
  refine lv_iconst (v := 0) hx hb d_M_at_6 (by decide) ?_
  refine M_ld S hK hP (r := 0) (by omega) rfl d_M_at_7 ?_
  refine lv_iconst (v := 1) hx hb d_M_at_8 (by decide) ?_
  refine lv_isub hx hb d_M_at_9 ?_
  refine RO.callS S (c_M_in l D ca  x 0 ((g 0) - 1) ) k_M_26 hK rfl rfl hl.1 ⟨Nat.le_of_ble_eq_true rfl, Nat.le_of_ble_eq_true rfl⟩ ⟨Nat.zero_le _, Nat.zero_le _⟩ (Nat.le_of_ble_eq_true rfl) d_M_at_10 ?_
  refine lv_if_ne (tgt := 19) hx hb d_M_at_13 (by decide) (fun c_13 => ?_) (fun c_13 => ?_)
  · refine lv_aload_n hx hb d_M_at_19 rfl (lv_at hl 0 rfl) ?_
    refine lv_iload_n hx hb d_M_at_20 rfl (lv_at hl 1 rfl) ?_
    refine lv_iload_n hx hb d_M_at_21 rfl (lv_at hl 1 rfl) ?_
    refine M_ro S (c_M_within l D ca o sa fs g x x hB) k_M_109 rfl hP hK rfl rfl hl.1 ⟨Nat.le_of_ble_eq_true rfl, Nat.le_of_ble_eq_true rfl⟩ ⟨Nat.zero_le _, Nat.zero_le _⟩ (Nat.le_of_ble_eq_true rfl) d_M_at_22 ?_
    refine lv_istore_n (lv' := [(2, .int (m_wi g x x)), (0, .ref o), (1, .int x)]) hx hb d_M_at_25 rfl hl (by decide) rfl (fun ls hl => ?_)
    refine lv_iload_n hx hb d_M_at_26 rfl (lv_at hl 0 rfl) ?_
    refine lv_iconst (v := (-1)) hx hb d_M_at_27 (by decide) ?_
    refine lv_icmp_ne (tgt := 35) hx hb d_M_at_28 (by decide) (fun c_28 => ?_) (fun c_28 => ?_)
    · refine lv_iload_n hx hb d_M_at_35 rfl (lv_at hl 0 rfl) ?_
      refine lv_if_lt (tgt := 51) hx hb d_M_at_36 (by decide) (fun c_36 => ?_) (fun c_36 => ?_)
      · refine lv_iload_n hx hb d_M_at_51 rfl (lv_at hl 2 rfl) ?_
        refine lv_aload_n hx hb d_M_at_52 rfl (lv_at hl 1 rfl) ?_
        refine lv_iconst (v := 0) hx hb d_M_at_53 (by decide) ?_
        refine M_ro S (c_M_end l D ca o sa fs g 0 hB (by omega)) k_M_53 rfl hP hK rfl rfl hl.1 ⟨Nat.le_of_ble_eq_true rfl, Nat.le_of_ble_eq_true rfl⟩ ⟨Nat.zero_le _, Nat.zero_le _⟩ (Nat.le_of_ble_eq_true rfl) d_M_at_54 ?_
        refine lv_icmp_ge (tgt := 64) hx hb d_M_at_57 (by decide) (fun c_57 => ?_) (fun c_57 => ?_)
        · refine lv_bipush (v := 11) hx hb d_M_at_64 (by decide) ?_
          exact hret _ _ _ d_M_at_66 rfl (by first | (simp only [m_at, c_13, c_28, c_36, c_57, ↓reduceIte]; done) | (simp only [m_at, c_13, c_28, c_36, c_57, ↓reduceIte]; rfl) | rfl)
        · refine lv_iconst (v := 1) hx hb d_M_at_60 (by decide) ?_
          refine lv_goto (tgt := 66) hx hb d_M_at_61 (by decide) ?_
          exact hret _ _ _ d_M_at_66 rfl (by first | (simp only [m_at, c_13, c_28, c_36, c_57, ↓reduceIte]; done) | (simp only [m_at, c_13, c_28, c_36, c_57, ↓reduceIte]; rfl) | rfl)
      · refine lv_iconst (v := 2) hx hb d_M_at_39 (by decide) ?_
        refine lv_bipush (v := 10) hx hb d_M_at_40 (by decide) ?_
        refine lv_iload_n hx hb d_M_at_42 rfl (lv_at hl 0 rfl) ?_
        refine lv_bipush (v := 20) hx hb d_M_at_43 (by decide) ?_
        refine lv_idiv hx hb d_M_at_45 (by decide) ?_
        refine lv_imul hx hb d_M_at_46 ?_
        refine lv_iadd hx hb d_M_at_47 ?_
        refine lv_goto (tgt := 66) hx hb d_M_at_48 (by decide) ?_
        exact hret _ _ _ d_M_at_66 rfl (by first | (simp only [m_at, c_13, c_28, c_36, ↓reduceIte]; done) | (simp only [m_at, c_13, c_28, c_36, ↓reduceIte]; rfl) | rfl)
    · refine lv_iconst (v := 0) hx hb d_M_at_31 (by decide) ?_
      refine lv_goto (tgt := 66) hx hb d_M_at_32 (by decide) ?_
      exact hret _ _ _ d_M_at_66 rfl (by first | (simp only [m_at, c_13, c_28, ↓reduceIte]; done) | (simp only [m_at, c_13, c_28, ↓reduceIte]; rfl) | rfl)
  · refine lv_bipush (v := (-2)) hx hb d_M_at_16 (by decide) ?_
    exact hret _ _ _ d_M_at_18 rfl (by first | (simp only [m_at, c_13, ↓reduceIte]; done) | (simp only [m_at, c_13, ↓reduceIte]; rfl) | rfl)
set_option maxHeartbeats 4000000 in
set_option maxRecDepth 100000 in
theorem c_M_fits (l : Launch) (D : va_G) (ca : Nat → ClassId) (o sa : Nat) (fs : List Value) (g : Nat → Int32) (x : Int32) (hB : BN g): RO l y_M_fits b_M_fits 3 (some .int) 6 130 D ca [.ref o, .int x] (mw ca o sa fs g) (m_fit g x) := by
  refine RO.mk (ty := .int) rfl rfl (Nat.le_of_ble_eq_true rfl) ?_
  intro p e s m args below meth c Q S hP hK
  obtain ⟨hx, hb, hml, hown, hts⟩ := id S
  intro hret ls hl0
  have hl : lv_has ls 3 [(0, .ref o), (1, .int x)] := hl0
  refine lv_iload_n hx hb d_M_fits_0 rfl (lv_at hl 1 rfl) ?_
  refine RO.callS S (c_M_isFile l D ca  x ) k_M_30 hK rfl rfl hl.1 ⟨Nat.le_of_ble_eq_true rfl, Nat.le_of_ble_eq_true rfl⟩ ⟨Nat.zero_le _, Nat.zero_le _⟩ (Nat.le_of_ble_eq_true rfl) d_M_fits_1 ?_
  refine lv_if_ne (tgt := 9) hx hb d_M_fits_4 (by decide) (fun c_4 => ?_) (fun c_4 => ?_)
  · obtain ⟨f, hf, rfl⟩ := isf_of c_4
    have hcl : (nI f).toNatClampNeg = f := nI_clamp (by omega)
    have hn20 := (hB f hf).2
    refine lv_aload_n hx hb d_M_fits_9 rfl (lv_at hl 0 rfl) ?_
    refine M_ro S (c_M_gap l D ca o sa fs g  hB) k_M_70 rfl hP hK rfl rfl hl.1 ⟨Nat.le_of_ble_eq_true rfl, Nat.le_of_ble_eq_true rfl⟩ ⟨Nat.zero_le _, Nat.zero_le _⟩ (Nat.le_of_ble_eq_true rfl) d_M_fits_10 ?_
    refine lv_aload_n hx hb d_M_fits_13 rfl (lv_at hl 0 rfl) ?_
    refine f_get S cls_M hK hP 0 rfl 0 (by decide) fl_M_s rfl rfl d_M_fits_14 ?_
    refine lv_iconst (v := 1) hx hb d_M_fits_17 (by decide) ?_
    refine M_ld S hK hP (r := 1) (by omega) rfl d_M_fits_18 ?_
    refine lv_isub hx hb d_M_fits_19 ?_
    refine lv_iconst (v := 2) hx hb d_M_fits_20 (by decide) ?_
    refine lv_aload_n hx hb d_M_fits_21 rfl (lv_at hl 0 rfl) ?_
    refine f_get S cls_M hK hP 0 rfl 0 (by decide) fl_M_s rfl rfl d_M_fits_22 ?_
    refine lv_iconst (v := 2) hx hb d_M_fits_25 (by decide) ?_
    refine M_ld S hK hP (r := 2) (by omega) rfl d_M_fits_26 ?_
    refine lv_imul hx hb d_M_fits_27 ?_
    refine lv_isub hx hb d_M_fits_28 ?_
    refine lv_istore_n (lv' := [(2, .int (((gp g) - (g 1)) - (2 * (g 2)))), (0, .ref o), (1, .int (nI f))]) hx hb d_M_fits_29 rfl hl (by decide) rfl (fun ls hl => ?_)
    refine lv_iload_n hx hb d_M_fits_30 rfl (lv_at hl 0 rfl) ?_
    refine lv_if_lt (tgt := 48) hx hb d_M_fits_31 (by decide) (fun c_31 => ?_) (fun c_31 => ?_)
    · refine lv_iconst (v := 0) hx hb d_M_fits_48 (by decide) ?_
      refine lv_goto (tgt := 64) hx hb d_M_fits_49 (by decide) ?_
      exact hret _ _ _ d_M_fits_64 rfl (by first | (simp only [m_fit, c_4, hcl, c_31, ↓reduceIte]; done) | (simp only [m_fit, c_4, hcl, c_31, ↓reduceIte]; rfl) | rfl)
    · refine lv_aload_n hx hb d_M_fits_34 rfl (lv_at hl 1 rfl) ?_
      refine f_get S cls_M hK hP 0 rfl 0 (by decide) fl_M_s rfl rfl d_M_fits_35 ?_
      refine lv_bipush (v := 8) hx hb d_M_fits_38 (by decide) ?_
      refine lv_iload_n hx hb d_M_fits_40 rfl (lv_at hl 2 rfl) ?_
      refine lv_iadd hx hb d_M_fits_41 ?_
      refine lv_tope (z := nI (8 + f)) (nI_add 8 f) ?_
      refine M_ld S hK hP (r := 8 + f) (by omega) rfl d_M_fits_42 ?_
      refine lv_tope (z := nI (bn g f)) ((hB f hf).1) ?_
      refine lv_bipush (v := 20) hx hb d_M_fits_43 (by decide) ?_
      refine lv_icmp_ne (tgt := 52) hx hb d_M_fits_45 (by decide) (fun c_45 => ?_) (fun c_45 => ?_)
      · refine lv_iload_n hx hb d_M_fits_52 rfl (lv_at hl 0 rfl) ?_
        refine lv_bipush (v := 99) hx hb d_M_fits_53 (by decide) ?_
        refine lv_icmp_le (tgt := 63) hx hb d_M_fits_55 (by decide) (fun c_55 => ?_) (fun c_55 => ?_)
        · refine lv_iload_n hx hb d_M_fits_63 rfl (lv_at hl 0 rfl) ?_
          exact hret _ _ _ d_M_fits_64 rfl (by first | (simp only [m_fit, c_4, hcl, c_31, c_45, c_55, ↓reduceIte]; done) | (simp only [m_fit, c_4, hcl, c_31, c_45, c_55, ↓reduceIte]; rfl) | rfl)
        · refine lv_bipush (v := 99) hx hb d_M_fits_58 (by decide) ?_
          refine lv_goto (tgt := 64) hx hb d_M_fits_60 (by decide) ?_
          exact hret _ _ _ d_M_fits_64 rfl (by first | (simp only [m_fit, c_4, hcl, c_31, c_45, c_55, ↓reduceIte]; done) | (simp only [m_fit, c_4, hcl, c_31, c_45, c_55, ↓reduceIte]; rfl) | rfl)
      · refine lv_iconst (v := 0) hx hb d_M_fits_48 (by decide) ?_
        refine lv_goto (tgt := 64) hx hb d_M_fits_49 (by decide) ?_
        exact hret _ _ _ d_M_fits_64 rfl (by first | (simp only [m_fit, c_4, hcl, c_31, c_45, ↓reduceIte]; done) | (simp only [m_fit, c_4, hcl, c_31, c_45, ↓reduceIte]; rfl) | rfl)
  · refine lv_iconst (v := (-1)) hx hb d_M_fits_7 (by decide) ?_
    exact hret _ _ _ d_M_fits_8 rfl (by first | (simp only [m_fit, c_4, ↓reduceIte]; done) | (simp only [m_fit, c_4, ↓reduceIte]; rfl) | rfl)
set_option maxHeartbeats 4000000 in
set_option maxRecDepth 100000 in
theorem c_M_rooms (l : Launch) (D : va_G) (ca : Nat → ClassId) (o sa : Nat) (fs : List Value) (g : Nat → Int32) (x : Int32) (hB : BN g) (hne : inr x 1 99 = 0 ∨ ¬ x + 2 * g 2 = 0): RO l y_M_rooms b_M_rooms 4 (some .int) 6 130 D ca [.ref o, .int x] (mw ca o sa fs g) (m_roo g x) := by
  refine RO.mk (ty := .int) rfl rfl (Nat.le_of_ble_eq_true rfl) ?_
  intro p e s m args below meth c Q S hP hK
  obtain ⟨hx, hb, hml, hown, hts⟩ := id S
  intro hret ls hl0
  have hl : lv_has ls 4 [(0, .ref o), (1, .int x)] := hl0
  refine lv_iload_n hx hb d_M_rooms_0 rfl (lv_at hl 1 rfl) ?_
  refine lv_iconst (v := 1) hx hb d_M_rooms_1 (by decide) ?_
  refine lv_bipush (v := 99) hx hb d_M_rooms_2 (by decide) ?_
  refine RO.callS S (c_M_in l D ca  x 1 99 ) k_M_26 hK rfl rfl hl.1 ⟨Nat.le_of_ble_eq_true rfl, Nat.le_of_ble_eq_true rfl⟩ ⟨Nat.zero_le _, Nat.zero_le _⟩ (Nat.le_of_ble_eq_true rfl) d_M_rooms_4 ?_
  refine lv_if_ne (tgt := 13) hx hb d_M_rooms_7 (by decide) (fun c_7 => ?_) (fun c_7 => ?_)
  · refine lv_aload_n hx hb d_M_rooms_13 rfl (lv_at hl 0 rfl) ?_
    refine M_ro S (c_M_gap l D ca o sa fs g  hB) k_M_70 rfl hP hK rfl rfl hl.1 ⟨Nat.le_of_ble_eq_true rfl, Nat.le_of_ble_eq_true rfl⟩ ⟨Nat.zero_le _, Nat.zero_le _⟩ (Nat.le_of_ble_eq_true rfl) d_M_rooms_14 ?_
    refine lv_aload_n hx hb d_M_rooms_17 rfl (lv_at hl 0 rfl) ?_
    refine f_get S cls_M hK hP 0 rfl 0 (by decide) fl_M_s rfl rfl d_M_rooms_18 ?_
    refine lv_iconst (v := 1) hx hb d_M_rooms_21 (by decide) ?_
    refine M_ld S hK hP (r := 1) (by omega) rfl d_M_rooms_22 ?_
    refine lv_isub hx hb d_M_rooms_23 ?_
    refine lv_iload_n hx hb d_M_rooms_24 rfl (lv_at hl 1 rfl) ?_
    refine lv_iconst (v := 2) hx hb d_M_rooms_25 (by decide) ?_
    refine lv_aload_n hx hb d_M_rooms_26 rfl (lv_at hl 0 rfl) ?_
    refine f_get S cls_M hK hP 0 rfl 0 (by decide) fl_M_s rfl rfl d_M_rooms_27 ?_
    refine lv_iconst (v := 2) hx hb d_M_rooms_30 (by decide) ?_
    refine M_ld S hK hP (r := 2) (by omega) rfl d_M_rooms_31 ?_
    refine lv_imul hx hb d_M_rooms_32 ?_
    refine lv_iadd hx hb d_M_rooms_33 ?_
    refine lv_idiv hx hb d_M_rooms_34 (hne.resolve_left c_7) ?_
    refine lv_istore_n (lv' := [(2, .int (((gp g) - (g 1)) / (x + (2 * (g 2))))), (0, .ref o), (1, .int x)]) hx hb d_M_rooms_35 rfl hl (by decide) rfl (fun ls hl => ?_)
    refine lv_bipush (v := 40) hx hb d_M_rooms_36 (by decide) ?_
    refine lv_aload_n hx hb d_M_rooms_38 rfl (lv_at hl 1 rfl) ?_
    refine f_get S cls_M hK hP 0 rfl 0 (by decide) fl_M_s rfl rfl d_M_rooms_39 ?_
    refine lv_bipush (v := 8) hx hb d_M_rooms_42 (by decide) ?_
    refine M_ld S hK hP (r := 8) (by omega) rfl d_M_rooms_44 ?_
    refine lv_tope (z := nI (bn g 0)) ((hB 0 (by omega)).1) ?_
    refine lv_isub hx hb d_M_rooms_45 ?_
    refine lv_aload_n hx hb d_M_rooms_46 rfl (lv_at hl 1 rfl) ?_
    refine f_get S cls_M hK hP 0 rfl 0 (by decide) fl_M_s rfl rfl d_M_rooms_47 ?_
    refine lv_bipush (v := 9) hx hb d_M_rooms_50 (by decide) ?_
    refine M_ld S hK hP (r := 9) (by omega) rfl d_M_rooms_52 ?_
    refine lv_tope (z := nI (bn g 1)) ((hB 1 (by omega)).1) ?_
    refine lv_isub hx hb d_M_rooms_53 ?_
    refine lv_istore_n (lv' := [(3, .int ((40 - (nI (bn g 0))) - (nI (bn g 1)))), (2, .int (((gp g) - (g 1)) / (x + (2 * (g 2))))), (0, .ref o), (1, .int x)]) hx hb d_M_rooms_54 rfl hl (by decide) rfl (fun ls hl => ?_)
    refine lv_iload_n hx hb d_M_rooms_55 rfl (lv_at hl 1 rfl) ?_
    refine lv_iload_n hx hb d_M_rooms_56 rfl (lv_at hl 0 rfl) ?_
    refine lv_icmp_ge (tgt := 64) hx hb d_M_rooms_57 (by decide) (fun c_57 => ?_) (fun c_57 => ?_)
    · refine lv_iload_n hx hb d_M_rooms_64 rfl (lv_at hl 0 rfl) ?_
      exact hret _ _ _ d_M_rooms_65 rfl (by first | (simp only [m_roo, c_7, c_57, ↓reduceIte]; done) | (simp only [m_roo, c_7, c_57, ↓reduceIte]; rfl) | rfl)
    · refine lv_iload_n hx hb d_M_rooms_60 rfl (lv_at hl 1 rfl) ?_
      refine lv_goto (tgt := 65) hx hb d_M_rooms_61 (by decide) ?_
      exact hret _ _ _ d_M_rooms_65 rfl (by first | (simp only [m_roo, c_7, c_57, ↓reduceIte]; done) | (simp only [m_roo, c_7, c_57, ↓reduceIte]; rfl) | rfl)
  · refine lv_bipush (v := (-2)) hx hb d_M_rooms_10 (by decide) ?_
    exact hret _ _ _ d_M_rooms_12 rfl (by first | (simp only [m_roo, c_7, ↓reduceIte]; done) | (simp only [m_roo, c_7, ↓reduceIte]; rfl) | rfl)
set_option maxHeartbeats 4000000 in
set_option maxRecDepth 100000 in
theorem c_M_nearest (l : Launch) (D : va_G) (ca : Nat → ClassId) (o sa : Nat) (fs : List Value) (g : Nat → Int32) (x : Int32) (hB : BN g): RO l y_M_nearest b_M_nearest 9 (some .int) 7 160 D ca [.ref o, .int x] (mw ca o sa fs g) (m_nea g x) := by
  refine RO.mk (ty := .int) rfl rfl (Nat.le_of_ble_eq_true rfl) ?_
  intro p e s m args below meth c Q S hP hK
  obtain ⟨hx, hb, hml, hown, hts⟩ := id S
  intro hret ls hl0
  have hl : lv_has ls 9 [(0, .ref o), (1, .int x)] := hl0
  refine lv_iload_n hx hb d_M_nearest_0 rfl (lv_at hl 1 rfl) ?_
  refine lv_iconst (v := 0) hx hb d_M_nearest_1 (by decide) ?_
  refine lv_iconst (v := 3) hx hb d_M_nearest_2 (by decide) ?_
  refine RO.callS S (c_M_in l D ca  x 0 3 ) k_M_26 hK rfl rfl hl.1 ⟨Nat.le_of_ble_eq_true rfl, Nat.le_of_ble_eq_true rfl⟩ ⟨Nat.zero_le _, Nat.zero_le _⟩ (Nat.le_of_ble_eq_true rfl) d_M_nearest_3 ?_
  refine lv_if_ne (tgt := 12) hx hb d_M_nearest_6 (by decide) (fun c_6 => ?_) (fun c_6 => ?_)
  · refine lv_bipush (v := (-6)) hx hb d_M_nearest_12 (by decide) ?_
    refine lv_istore_n (lv' := [(2, .int (-6)), (0, .ref o), (1, .int x)]) hx hb d_M_nearest_14 rfl hl (by decide) rfl (fun ls hl => ?_)
    refine lv_iconst (v := 0) hx hb d_M_nearest_15 (by decide) ?_
    refine lv_istore_n (lv' := [(3, .int 0), (2, .int (-6)), (0, .ref o), (1, .int x)]) hx hb d_M_nearest_16 rfl hl (by decide) rfl (fun ls hl => ?_)
    refine lv_iconst (v := 0) hx hb d_M_nearest_17 (by decide) ?_
    refine lv_istore (lv' := [(4, .int 0), (3, .int 0), (2, .int (-6)), (0, .ref o), (1, .int x)]) hx hb d_M_nearest_18 hl (by decide) rfl (fun ls hl => ?_)
    suffices lp : ∀ (r k : Nat) (q : Int32 × Int32), 80 - k < r → k ≤ 80 → mnl g 80 0 (-6, 0) = mnl g (80 - k) k q → ∀ ls : Array Slot, lv_has ls 9 [(2, .int q.1), (3, .int q.2), (4, .int (nI k)), (0, .ref o), (1, .int x)] → W p l e (rm 7 160 0 0) s m args below meth c s.heap [] 0 0 Q (F0 m 20 ls []) from lp 81 0 (-6, 0) (by omega) (by omega) rfl _ (lv_sub hl [2, 1, 0, 3, 4] rfl)
    intro r
    induction r with
    | zero => intro k q hk; omega
    | succ r ih =>
      intro k q hk hkn hE ls hl
      refine lv_iload hx hb d_M_nearest_20 (lv_at hl 2 rfl) ?_
      refine lv_bipush (v := 80) hx hb d_M_nearest_22 (by decide) ?_
      refine lv_icmp_ge (tgt := 121) hx hb d_M_nearest_24 (by decide) (fun c_24 => ?_) (fun c_24 => ?_)
      · have e_24 : 80 ≤ k := le_of_nI (by omega) (by omega) (show nI 80 ≤ nI k from c_24)
        obtain rfl : k = 80 := by omega
        have hE : mnl g 80 0 (-6, 0) = q := hE
        refine lv_iload_n hx hb d_M_nearest_121 rfl (lv_at hl 0 rfl) ?_
        refine lv_bipush (v := (-6)) hx hb d_M_nearest_122 (by decide) ?_
        refine lv_icmp_ne (tgt := 132) hx hb d_M_nearest_124 (by decide) (fun c_124 => ?_) (fun c_124 => ?_)
        · refine lv_iload_n hx hb d_M_nearest_132 rfl (lv_at hl 4 rfl) ?_
          refine lv_if_ne (tgt := 143) hx hb d_M_nearest_133 (by decide) (fun c_133 => ?_) (fun c_133 => ?_)
          · refine lv_iload_n hx hb d_M_nearest_143 rfl (lv_at hl 4 rfl) ?_
            refine lv_iconst (v := 1) hx hb d_M_nearest_144 (by decide) ?_
            refine lv_icmp_ne (tgt := 157) hx hb d_M_nearest_145 (by decide) (fun c_145 => ?_) (fun c_145 => ?_)
            · refine lv_iload_n hx hb d_M_nearest_157 rfl (lv_at hl 4 rfl) ?_
              refine lv_iconst (v := 2) hx hb d_M_nearest_158 (by decide) ?_
              refine lv_icmp_ne (tgt := 168) hx hb d_M_nearest_159 (by decide) (fun c_159 => ?_) (fun c_159 => ?_)
              · refine lv_iload_n hx hb d_M_nearest_168 rfl (lv_at hl 1 rfl) ?_
                exact hret _ _ _ d_M_nearest_169 rfl (by first | (simp only [m_nea, mnx, c_6, hE, c_124, c_133, c_145, c_159, ↓reduceIte]; done) | (simp only [m_nea, mnx, c_6, hE, c_124, c_133, c_145, c_159, ↓reduceIte]; rfl) | rfl)
              · refine lv_iload_n hx hb d_M_nearest_162 rfl (lv_at hl 0 rfl) ?_
                refine lv_iconst (v := 2) hx hb d_M_nearest_163 (by decide) ?_
                refine lv_irem hx hb d_M_nearest_164 (by decide) ?_
                refine lv_goto (tgt := 169) hx hb d_M_nearest_165 (by decide) ?_
                exact hret _ _ _ d_M_nearest_169 rfl (by first | (simp only [m_nea, mnx, c_6, hE, c_124, c_133, c_145, c_159, ↓reduceIte]; done) | (simp only [m_nea, mnx, c_6, hE, c_124, c_133, c_145, c_159, ↓reduceIte]; rfl) | rfl)
            · refine lv_iload_n hx hb d_M_nearest_148 rfl (lv_at hl 0 rfl) ?_
              refine lv_iconst (v := 2) hx hb d_M_nearest_149 (by decide) ?_
              refine lv_idiv hx hb d_M_nearest_150 (by decide) ?_
              refine lv_bipush (v := 20) hx hb d_M_nearest_151 (by decide) ?_
              refine lv_irem hx hb d_M_nearest_153 (by decide) ?_
              refine lv_goto (tgt := 169) hx hb d_M_nearest_154 (by decide) ?_
              exact hret _ _ _ d_M_nearest_169 rfl (by first | (simp only [m_nea, mnx, c_6, hE, c_124, c_133, c_145, ↓reduceIte]; done) | (simp only [m_nea, mnx, c_6, hE, c_124, c_133, c_145, ↓reduceIte]; rfl) | rfl)
          · refine lv_iload_n hx hb d_M_nearest_136 rfl (lv_at hl 0 rfl) ?_
            refine lv_bipush (v := 40) hx hb d_M_nearest_137 (by decide) ?_
            refine lv_idiv hx hb d_M_nearest_139 (by decide) ?_
            refine lv_goto (tgt := 169) hx hb d_M_nearest_140 (by decide) ?_
            exact hret _ _ _ d_M_nearest_169 rfl (by first | (simp only [m_nea, mnx, c_6, hE, c_124, c_133, ↓reduceIte]; done) | (simp only [m_nea, mnx, c_6, hE, c_124, c_133, ↓reduceIte]; rfl) | rfl)
        · refine lv_bipush (v := (-6)) hx hb d_M_nearest_127 (by decide) ?_
          refine lv_goto (tgt := 169) hx hb d_M_nearest_129 (by decide) ?_
          exact hret _ _ _ d_M_nearest_169 rfl (by first | (simp only [m_nea, mnx, c_6, hE, c_124, ↓reduceIte]; done) | (simp only [m_nea, mnx, c_6, hE, c_124, ↓reduceIte]; rfl) | rfl)
      · have e_24 : k < 80 := nle_lt (by omega) (by omega) (show ¬ nI 80 ≤ nI k from c_24)
        have hf : k / 40 < 2 := by omega
        have hn := (hB (k / 40) hf).2
        have hE1 : ∀ q2, q2 = mns g k q → mnl g 80 0 (-6, 0) = mnl g (80 - (k + 1)) (k + 1) q2 := by
          intro q2 h2
          rw [hE, show 80 - k = (80 - (k + 1)) + 1 by omega, h2]; rfl
        refine lv_iload hx hb d_M_nearest_27 (lv_at hl 2 rfl) ?_
        refine lv_bipush (v := 40) hx hb d_M_nearest_29 (by decide) ?_
        refine lv_idiv hx hb d_M_nearest_31 (by decide) ?_
        refine lv_tope (z := nI (k / 40)) (pk_div (by omega) (by decide) (by decide)) ?_
        refine lv_istore (lv' := [(5, .int (nI (k / 40))), (2, .int q.1), (3, .int q.2), (4, .int (nI k)), (0, .ref o), (1, .int x)]) hx hb d_M_nearest_32 hl (by decide) rfl (fun ls hl => ?_)
        refine lv_iload hx hb d_M_nearest_34 (lv_at hl 3 rfl) ?_
        refine lv_iconst (v := 2) hx hb d_M_nearest_36 (by decide) ?_
        refine lv_idiv hx hb d_M_nearest_37 (by decide) ?_
        refine lv_tope (z := nI (k / 2)) (pk_div (by omega) (by decide) (by decide)) ?_
        refine lv_bipush (v := 20) hx hb d_M_nearest_38 (by decide) ?_
        refine lv_irem hx hb d_M_nearest_40 (by decide) ?_
        refine lv_tope (z := nI (k / 2 % 20)) (pk_rem (by omega) (by decide) (by decide)) ?_
        refine lv_istore (lv' := [(6, .int (nI (k / 2 % 20))), (5, .int (nI (k / 40))), (2, .int q.1), (3, .int q.2), (4, .int (nI k)), (0, .ref o), (1, .int x)]) hx hb d_M_nearest_41 hl (by decide) rfl (fun ls hl => ?_)
        refine lv_iload hx hb d_M_nearest_43 (lv_at hl 0 rfl) ?_
        refine lv_aload_n hx hb d_M_nearest_45 rfl (lv_at hl 5 rfl) ?_
        refine f_get S cls_M hK hP 0 rfl 0 (by decide) fl_M_s rfl rfl d_M_nearest_46 ?_
        refine lv_bipush (v := 8) hx hb d_M_nearest_49 (by decide) ?_
        refine lv_iload hx hb d_M_nearest_51 (lv_at hl 1 rfl) ?_
        refine lv_iadd hx hb d_M_nearest_53 ?_
        refine lv_tope (z := nI (8 + (k / 40))) (nI_add 8 (k / 40)) ?_
        refine M_ld S hK hP (r := 8 + (k / 40)) (by omega) rfl d_M_nearest_54 ?_
        refine lv_tope (z := nI (bn g (k / 40))) ((hB (k / 40) hf).1) ?_
        refine lv_icmp_ge (tgt := 115) hx hb d_M_nearest_55 (by decide) (fun c_55 => ?_) (fun c_55 => ?_)
        · have hq : (q.1, q.2) = mns g k q := by
            simp only [mns, c_55, ↓reduceIte]
          refine lv_iinc (v := nI (k + 1)) (lv' := [(4, .int (nI (k + 1))), (6, .int (nI (k / 2 % 20))), (5, .int (nI (k / 40))), (2, .int q.1), (3, .int q.2), (0, .ref o), (1, .int x)]) hx hb d_M_nearest_115 hl (k := 4) rfl (nI_1 k) (by decide) rfl (fun ls hl => ?_)
          refine lv_goto (tgt := 20) hx hb d_M_nearest_118 (by decide) ?_
          exact ih (k + 1) (q.1, q.2) (by omega) (by omega) (hE1 _ hq) _ (lv_sub hl [3, 4, 0, 5, 6] rfl)
        · have e_55 : k / 2 % 20 < bn g (k / 40) := nle_lt (by omega) (by omega) c_55
          refine lv_aload_n hx hb d_M_nearest_58 rfl (lv_at hl 5 rfl) ?_
          refine lv_iload hx hb d_M_nearest_59 (lv_at hl 1 rfl) ?_
          refine lv_iload hx hb d_M_nearest_61 (lv_at hl 0 rfl) ?_
          refine lv_iload hx hb d_M_nearest_63 (lv_at hl 4 rfl) ?_
          refine lv_iconst (v := 2) hx hb d_M_nearest_65 (by decide) ?_
          refine lv_irem hx hb d_M_nearest_66 (by decide) ?_
          refine lv_tope (z := nI (k % 2)) (pk_rem (by omega) (by decide) (by decide)) ?_
          refine M_ro S (c_M_travelTo l D ca o sa fs g (k / 40) (k / 2 % 20) (k % 2) (by omega) (by omega) (by omega)) k_M_115 rfl hP hK rfl rfl hl.1 ⟨Nat.le_of_ble_eq_true rfl, Nat.le_of_ble_eq_true rfl⟩ ⟨Nat.zero_le _, Nat.zero_le _⟩ (Nat.le_of_ble_eq_true rfl) d_M_nearest_67 ?_
          refine lv_istore (lv' := [(7, .int (m_tr g (k / 40) (k / 2 % 20) (k % 2))), (6, .int (nI (k / 2 % 20))), (5, .int (nI (k / 40))), (2, .int q.1), (3, .int q.2), (4, .int (nI k)), (0, .ref o), (1, .int x)]) hx hb d_M_nearest_70 hl (by decide) rfl (fun ls hl => ?_)
          refine lv_iload_n hx hb d_M_nearest_72 rfl (lv_at hl 3 rfl) ?_
          refine lv_bipush (v := (-6)) hx hb d_M_nearest_73 (by decide) ?_
          refine lv_icmp_eq (tgt := 84) hx hb d_M_nearest_75 (by decide) (fun c_75 => ?_) (fun c_75 => ?_)
          · refine lv_iconst (v := 1) hx hb d_M_nearest_84 (by decide) ?_
            refine lv_goto (tgt := 89) hx hb d_M_nearest_85 (by decide) ?_
            refine lv_istore (lv' := [(8, .int 1), (7, .int (m_tr g (k / 40) (k / 2 % 20) (k % 2))), (6, .int (nI (k / 2 % 20))), (5, .int (nI (k / 40))), (2, .int q.1), (3, .int q.2), (4, .int (nI k)), (0, .ref o), (1, .int x)]) hx hb d_M_nearest_89 hl (by decide) rfl (fun ls hl => ?_)
            refine lv_iload hx hb d_M_nearest_91 (lv_at hl 0 rfl) ?_
            refine lv_if_eq (tgt := 101) hx hb d_M_nearest_93 (by decide) (fun q => absurd q (by decide)) (fun _ => ?_)
            refine lv_iload hx hb d_M_nearest_96 (lv_at hl 6 rfl) ?_
            refine lv_goto (tgt := 102) hx hb d_M_nearest_98 (by decide) ?_
            refine lv_istore_n (lv' := [(2, .int (nI k)), (8, .int 1), (7, .int (m_tr g (k / 40) (k / 2 % 20) (k % 2))), (6, .int (nI (k / 2 % 20))), (5, .int (nI (k / 40))), (3, .int q.2), (4, .int (nI k)), (0, .ref o), (1, .int x)]) hx hb d_M_nearest_102 rfl hl (by decide) rfl (fun ls hl => ?_)
            refine lv_iload hx hb d_M_nearest_103 (lv_at hl 1 rfl) ?_
            refine lv_if_eq (tgt := 113) hx hb d_M_nearest_105 (by decide) (fun q => absurd q (by decide)) (fun _ => ?_)
            refine lv_iload hx hb d_M_nearest_108 (lv_at hl 2 rfl) ?_
            refine lv_goto (tgt := 114) hx hb d_M_nearest_110 (by decide) ?_
            refine lv_istore_n (lv' := [(3, .int (m_tr g (k / 40) (k / 2 % 20) (k % 2))), (2, .int (nI k)), (8, .int 1), (7, .int (m_tr g (k / 40) (k / 2 % 20) (k % 2))), (6, .int (nI (k / 2 % 20))), (5, .int (nI (k / 40))), (4, .int (nI k)), (0, .ref o), (1, .int x)]) hx hb d_M_nearest_114 rfl hl (by decide) rfl (fun ls hl => ?_)
            have hq : (nI k, m_tr g (k / 40) (k / 2 % 20) (k % 2)) = mns g k q := by
              simp only [mns, c_55, c_75, ↓reduceIte]
            refine lv_iinc (v := nI (k + 1)) (lv' := [(4, .int (nI (k + 1))), (3, .int (m_tr g (k / 40) (k / 2 % 20) (k % 2))), (2, .int (nI k)), (8, .int 1), (7, .int (m_tr g (k / 40) (k / 2 % 20) (k % 2))), (6, .int (nI (k / 2 % 20))), (5, .int (nI (k / 40))), (0, .ref o), (1, .int x)]) hx hb d_M_nearest_115 hl (k := 6) rfl (nI_1 k) (by decide) rfl (fun ls hl => ?_)
            refine lv_goto (tgt := 20) hx hb d_M_nearest_118 (by decide) ?_
            exact ih (k + 1) (nI k, m_tr g (k / 40) (k / 2 % 20) (k % 2)) (by omega) (by omega) (hE1 _ hq) _ (lv_sub hl [2, 1, 0, 7, 8] rfl)
          · refine lv_iload hx hb d_M_nearest_78 (lv_at hl 0 rfl) ?_
            refine lv_iload_n hx hb d_M_nearest_80 rfl (lv_at hl 4 rfl) ?_
            refine lv_icmp_ge (tgt := 88) hx hb d_M_nearest_81 (by decide) (fun c_81 => ?_) (fun c_81 => ?_)
            · refine lv_iconst (v := 0) hx hb d_M_nearest_88 (by decide) ?_
              refine lv_istore (lv' := [(8, .int 0), (7, .int (m_tr g (k / 40) (k / 2 % 20) (k % 2))), (6, .int (nI (k / 2 % 20))), (5, .int (nI (k / 40))), (2, .int q.1), (3, .int q.2), (4, .int (nI k)), (0, .ref o), (1, .int x)]) hx hb d_M_nearest_89 hl (by decide) rfl (fun ls hl => ?_)
              refine lv_iload hx hb d_M_nearest_91 (lv_at hl 0 rfl) ?_
              refine lv_if_eq (tgt := 101) hx hb d_M_nearest_93 (by decide) (fun _ => ?_) (fun q => absurd (by decide) q)
              refine lv_iload_n hx hb d_M_nearest_101 rfl (lv_at hl 4 rfl) ?_
              refine lv_istore_n (lv' := [(2, .int q.1), (8, .int 0), (7, .int (m_tr g (k / 40) (k / 2 % 20) (k % 2))), (6, .int (nI (k / 2 % 20))), (5, .int (nI (k / 40))), (3, .int q.2), (4, .int (nI k)), (0, .ref o), (1, .int x)]) hx hb d_M_nearest_102 rfl hl (by decide) rfl (fun ls hl => ?_)
              refine lv_iload hx hb d_M_nearest_103 (lv_at hl 1 rfl) ?_
              refine lv_if_eq (tgt := 113) hx hb d_M_nearest_105 (by decide) (fun _ => ?_) (fun q => absurd (by decide) q)
              refine lv_iload_n hx hb d_M_nearest_113 rfl (lv_at hl 5 rfl) ?_
              refine lv_istore_n (lv' := [(3, .int q.2), (2, .int q.1), (8, .int 0), (7, .int (m_tr g (k / 40) (k / 2 % 20) (k % 2))), (6, .int (nI (k / 2 % 20))), (5, .int (nI (k / 40))), (4, .int (nI k)), (0, .ref o), (1, .int x)]) hx hb d_M_nearest_114 rfl hl (by decide) rfl (fun ls hl => ?_)
              have hq : (q.1, q.2) = mns g k q := by
                simp only [mns, c_55, c_75, c_81, ↓reduceIte]
              refine lv_iinc (v := nI (k + 1)) (lv' := [(4, .int (nI (k + 1))), (3, .int q.2), (2, .int q.1), (8, .int 0), (7, .int (m_tr g (k / 40) (k / 2 % 20) (k % 2))), (6, .int (nI (k / 2 % 20))), (5, .int (nI (k / 40))), (0, .ref o), (1, .int x)]) hx hb d_M_nearest_115 hl (k := 6) rfl (nI_1 k) (by decide) rfl (fun ls hl => ?_)
              refine lv_goto (tgt := 20) hx hb d_M_nearest_118 (by decide) ?_
              exact ih (k + 1) (q.1, q.2) (by omega) (by omega) (hE1 _ hq) _ (lv_sub hl [2, 1, 0, 7, 8] rfl)
            · refine lv_iconst (v := 1) hx hb d_M_nearest_84 (by decide) ?_
              refine lv_goto (tgt := 89) hx hb d_M_nearest_85 (by decide) ?_
              refine lv_istore (lv' := [(8, .int 1), (7, .int (m_tr g (k / 40) (k / 2 % 20) (k % 2))), (6, .int (nI (k / 2 % 20))), (5, .int (nI (k / 40))), (2, .int q.1), (3, .int q.2), (4, .int (nI k)), (0, .ref o), (1, .int x)]) hx hb d_M_nearest_89 hl (by decide) rfl (fun ls hl => ?_)
              refine lv_iload hx hb d_M_nearest_91 (lv_at hl 0 rfl) ?_
              refine lv_if_eq (tgt := 101) hx hb d_M_nearest_93 (by decide) (fun q => absurd q (by decide)) (fun _ => ?_)
              refine lv_iload hx hb d_M_nearest_96 (lv_at hl 6 rfl) ?_
              refine lv_goto (tgt := 102) hx hb d_M_nearest_98 (by decide) ?_
              refine lv_istore_n (lv' := [(2, .int (nI k)), (8, .int 1), (7, .int (m_tr g (k / 40) (k / 2 % 20) (k % 2))), (6, .int (nI (k / 2 % 20))), (5, .int (nI (k / 40))), (3, .int q.2), (4, .int (nI k)), (0, .ref o), (1, .int x)]) hx hb d_M_nearest_102 rfl hl (by decide) rfl (fun ls hl => ?_)
              refine lv_iload hx hb d_M_nearest_103 (lv_at hl 1 rfl) ?_
              refine lv_if_eq (tgt := 113) hx hb d_M_nearest_105 (by decide) (fun q => absurd q (by decide)) (fun _ => ?_)
              refine lv_iload hx hb d_M_nearest_108 (lv_at hl 2 rfl) ?_
              refine lv_goto (tgt := 114) hx hb d_M_nearest_110 (by decide) ?_
              refine lv_istore_n (lv' := [(3, .int (m_tr g (k / 40) (k / 2 % 20) (k % 2))), (2, .int (nI k)), (8, .int 1), (7, .int (m_tr g (k / 40) (k / 2 % 20) (k % 2))), (6, .int (nI (k / 2 % 20))), (5, .int (nI (k / 40))), (4, .int (nI k)), (0, .ref o), (1, .int x)]) hx hb d_M_nearest_114 rfl hl (by decide) rfl (fun ls hl => ?_)
              have hq : (nI k, m_tr g (k / 40) (k / 2 % 20) (k % 2)) = mns g k q := by
                simp only [mns, c_55, c_75, c_81, ↓reduceIte]
              refine lv_iinc (v := nI (k + 1)) (lv' := [(4, .int (nI (k + 1))), (3, .int (m_tr g (k / 40) (k / 2 % 20) (k % 2))), (2, .int (nI k)), (8, .int 1), (7, .int (m_tr g (k / 40) (k / 2 % 20) (k % 2))), (6, .int (nI (k / 2 % 20))), (5, .int (nI (k / 40))), (0, .ref o), (1, .int x)]) hx hb d_M_nearest_115 hl (k := 6) rfl (nI_1 k) (by decide) rfl (fun ls hl => ?_)
              refine lv_goto (tgt := 20) hx hb d_M_nearest_118 (by decide) ?_
              exact ih (k + 1) (nI k, m_tr g (k / 40) (k / 2 % 20) (k % 2)) (by omega) (by omega) (hE1 _ hq) _ (lv_sub hl [2, 1, 0, 7, 8] rfl)
  · refine lv_bipush (v := (-2)) hx hb d_M_nearest_9 (by decide) ?_
    exact hret _ _ _ d_M_nearest_11 rfl (by first | (simp only [m_nea, mnx, c_6, ↓reduceIte]; done) | (simp only [m_nea, mnx, c_6, ↓reduceIte]; rfl) | rfl)
