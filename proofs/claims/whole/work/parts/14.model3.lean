/-! Reading a text: the sign at a place, the state (place, is something wrong) behind each step; by the model -/
def chr (P : Nat → Int32) (n j : Nat) : Int32 := if j < n then P j else 0
def b2 (b : Bool) : Int32 := if b = true then 1 else 0
def sg (P : Nat → Int32) (n : Nat) (a b : Int32) (q : Nat × Bool) : Nat × Bool := if q.2 = true then (q.1, true) else if inr (chr P n q.1) a b = 0 then (q.1, true) else (q.1 + 1, false)
def nx (P : Nat → Int32) (n : Nat) (a b : Int32) (q : Nat × Bool) : Bool := if q.2 = true then false else if q.1 < n then (if inr (P q.1) a b = 0 then false else true) else false
def nml (P : Nat → Int32) (n : Nat) : Nat → Int32 → Nat × Bool → Int32 × (Nat × Bool)
  | 0, v, q => (v, q)
  | r + 1, v, q => if 0 < v then (if nx P n 48 57 q = true then nml P n r (10 * v + chr P n q.1 - 48) (sg P n 48 57 q) else (v, q)) else (v, q)
def nm (P : Nat → Int32) (n : Nat) (q : Nat × Bool) : Int32 × (Nat × Bool) := nml P n 3 (chr P n q.1 - 48) (sg P n 48 57 q)
def mo_w (P : Nat → Int32) (n p : Nat) : (Nat × Bool) × Int32 × Int32 × Int32 :=
  let r := nm P n (sg P n 58 58 (sg P n 48 49 (p + 1, false)))
  let r2 := nm P n (sg P n 35 35 r.2)
  (r2.2, chr P n (p + 1) - 48, r.1, r2.1)
def mo_r (P : Nat → Int32) (n p : Nat) : (Nat × Bool) × Int32 × Int32 × Int32 :=
  let r := nm P n (sg P n 46 46 (sg P n 48 49 (p + 1, false)))
  (if nx P n 45 45 r.2 = true then sg P n 45 45 r.2 else r.2, chr P n (p + 1) - 48, r.1, if nx P n 45 45 r.2 = true then 1 else 0)
def mo_c (P : Nat → Int32) (n p : Nat) : (Nat × Bool) × Int32 × Int32 × Int32 :=
  let r := nm P n (sg P n 46 46 (sg P n 48 49 (p + 1, false)))
  (r.2, chr P n (p + 1) - 48, r.1, 0)
def mo_m (P : Nat → Int32) (n p : Nat) : (Nat × Bool) × Int32 × Int32 × Int32 := ((nm P n (p + 1, false)).2, 0, (nm P n (p + 1, false)).1, 0)
def mo (P : Nat → Int32) (n p : Nat) : (Nat × Bool) × Int32 × Int32 × Int32 :=
  if chr P n p = 119 then mo_w P n p else if chr P n p = 114 then mo_r P n p else if chr P n p = 99 then mo_c P n p else if chr P n p = 109 then mo_m P n p else if chr P n p = 120 then ((p + 1, false), 0, 0, 0) else ((nm P n (p, true)).2, 0, (nm P n (p, true)).1, 0)
theorem b2_z {b : Bool} (h : b2 b = 0) : b = false := by cases b; rfl; exact absurd h (by decide)
theorem b2_n {b : Bool} (h : ¬ b2 b = 0) : b = true := by cases b; exact absurd rfl h; rfl
theorem nar_b2 (b : Bool) : narrow .boolean (.int (b2 b)) = .int (b2 b) := by cases b <;> rfl
theorem fit_b2 (b : Bool) : fits .boolean (.int (b2 b)) = true := by cases b <;> rfl
theorem sg_bd {P : Nat → Int32} {n : Nat} {a b : Int32} {q : Nat × Bool} (ha : 0 < a) (hq : q.1 ≤ n) : q.1 ≤ (sg P n a b q).1 ∧ (sg P n a b q).1 ≤ n := by
  unfold sg
  split
  · exact ⟨Nat.le_refl _, hq⟩
  · split
    · exact ⟨Nat.le_refl _, hq⟩
    · rename_i h
      refine ⟨by omega, ?_⟩
      show q.1 + 1 ≤ n
      rcases Nat.lt_or_ge q.1 n with z | z
      · omega
      · refine absurd ?_ h
        have e : chr P n q.1 = 0 := if_neg (by omega)
        unfold inr
        rw [e, if_pos ha]
theorem nml_bd {P : Nat → Int32} {n : Nat} : ∀ (r : Nat) (v : Int32) (q : Nat × Bool), q.1 ≤ n → q.1 ≤ (nml P n r v q).2.1 ∧ (nml P n r v q).2.1 ≤ n
  | 0, _, q, hq => ⟨Nat.le_refl _, hq⟩
  | r + 1, v, q, hq => by
    unfold nml
    split
    · split
      · have h1 := sg_bd (P := P) (n := n) (a := 48) (b := 57) (by decide) hq
        have h2 := nml_bd (P := P) (n := n) r (10 * v + chr P n q.1 - 48) (sg P n 48 57 q) h1.2
        exact ⟨by omega, h2.2⟩
      · exact ⟨Nat.le_refl _, hq⟩
    · exact ⟨Nat.le_refl _, hq⟩
theorem nm_bd {P : Nat → Int32} {n : Nat} {q : Nat × Bool} (hq : q.1 ≤ n) : q.1 ≤ (nm P n q).2.1 ∧ (nm P n q).2.1 ≤ n := by
  unfold nm
  have h1 := sg_bd (P := P) (n := n) (a := 48) (b := 57) (by decide) hq
  have h2 := nml_bd (P := P) (n := n) 3 (chr P n q.1 - 48) (sg P n 48 57 q) h1.2
  exact ⟨by omega, h2.2⟩
theorem chr_lt {P : Nat → Int32} {n p : Nat} {c : Int32} (h : chr P n p = c) (hc : ¬ c = 0) : p < n := by
  unfold chr at h
  split at h
  · assumption
  · exact absurd h.symm hc
theorem mo_bd {P : Nat → Int32} {n p : Nat} (hp : p ≤ n) : (mo P n p).1.1 ≤ n ∧ ((mo P n p).1.2 = false → p < (mo P n p).1.1) := by
  unfold mo
  split
  · rename_i h
    have hp1 := chr_lt h (by decide)
    unfold mo_w
    have h1 := sg_bd (P := P) (n := n) (a := 48) (b := 49) (q := (p + 1, false)) (by decide) hp1
    have h2 := sg_bd (P := P) (n := n) (a := 58) (b := 58) (by decide) h1.2
    have h3 := nm_bd (P := P) (n := n) h2.2
    have h4 := sg_bd (P := P) (n := n) (a := 35) (b := 35) (by decide) h3.2
    have h5 := nm_bd (P := P) (n := n) h4.2
    have h1 := h1.1
    dsimp only at h1 ⊢
    exact ⟨h5.2, fun _ => by omega⟩
  · split
    · rename_i h
      have hp1 := chr_lt h (by decide)
      unfold mo_r
      have h1 := sg_bd (P := P) (n := n) (a := 48) (b := 49) (q := (p + 1, false)) (by decide) hp1
      have h2 := sg_bd (P := P) (n := n) (a := 46) (b := 46) (by decide) h1.2
      have h3 := nm_bd (P := P) (n := n) h2.2
      have h4 := sg_bd (P := P) (n := n) (a := 45) (b := 45) (by decide) h3.2
      have h1 := h1.1
      dsimp only at h1 ⊢
      split
      · exact ⟨h4.2, fun _ => by omega⟩
      · exact ⟨h3.2, fun _ => by omega⟩
    · split
      · rename_i h
        have hp1 := chr_lt h (by decide)
        unfold mo_c
        have h1 := sg_bd (P := P) (n := n) (a := 48) (b := 49) (q := (p + 1, false)) (by decide) hp1
        have h2 := sg_bd (P := P) (n := n) (a := 46) (b := 46) (by decide) h1.2
        have h3 := nm_bd (P := P) (n := n) h2.2
        have h1 := h1.1
        dsimp only at h1 ⊢
        exact ⟨h3.2, fun _ => by omega⟩
      · split
        · rename_i h
          have hp1 := chr_lt h (by decide)
          unfold mo_m
          have h1 := nm_bd (P := P) (n := n) (q := (p + 1, false)) hp1
          exact ⟨h1.2, fun _ => h1.1⟩
        · split
          · rename_i h
            have hp1 := chr_lt h (by decide)
            exact ⟨hp1, fun _ => Nat.lt_succ_self p⟩
          · have h1 := nm_bd (P := P) (n := n) (q := (p, true)) hp
            refine ⟨h1.2, fun h => ?_⟩
            have e : (nm P n (p, true)).2 = (p, true) := by
              unfold nm
              have e1 : sg P n 48 57 (p, true) = (p, true) := rfl
              rw [e1]
              unfold nml
              split
              · rw [show nx P n 48 57 (p, true) = false from rfl, if_neg (by decide)]
              · rfl
            dsimp only at h
            rw [e] at h
            cases h
theorem chr_cases (c : Int32) : c = 119 ∨ c = 114 ∨ c = 99 ∨ c = 109 ∨ c = 120 ∨ (¬ c = 119 ∧ ¬ c = 114 ∧ ¬ c = 99 ∧ ¬ c = 109 ∧ ¬ c = 120) := by
  by_cases h1 : c = 119
  · exact Or.inl h1
  by_cases h2 : c = 114
  · exact Or.inr (Or.inl h2)
  by_cases h3 : c = 99
  · exact Or.inr (Or.inr (Or.inl h3))
  by_cases h4 : c = 109
  · exact Or.inr (Or.inr (Or.inr (Or.inl h4)))
  by_cases h5 : c = 120
  · exact Or.inr (Or.inr (Or.inr (Or.inr (Or.inl h5))))
  · exact Or.inr (Or.inr (Or.inr (Or.inr (Or.inr ⟨h1, h2, h3, h4, h5⟩))))
set_option maxHeartbeats 4000000 in
set_option maxRecDepth 100000 in
theorem c_M_sign (l : Launch) (D : va_G) (ca : Nat → ClassId) (o sa ba sl sv pd : Nat) (P : Nat → Int32) (kn pl q : Nat) (wb : Bool) (le one two three : Int32) (a b : Int32) (hpl : pl ≤ 80) (hq : q ≤ pl) : MI l y_M_sign b_M_sign 4 (some .int) 1 22 D ca [.ref o, .int a, .int b] [(o, .inr (4, [.ref sa, .ref ba, .int (nI kn), .ref sl, .ref sv, .ref pd, .int (nI pl), .int (nI q), .int (b2 wb), .int le, .int one, .int two, .int three])), (pd, .inl (ca 0, 80, .inl P))] (chr P pl q) [(o, .inr (4, [.ref sa, .ref ba, .int (nI kn), .ref sl, .ref sv, .ref pd, .int (nI pl), .int (nI ((sg P pl a b (q, wb)).1)), .int (b2 (sg P pl a b (q, wb)).2), .int le, .int one, .int two, .int three])), (pd, .inl (ca 0, 80, .inl P))] := by
  refine MI.mk (ty := .int) rfl rfl (Nat.le_of_ble_eq_true rfl) ?_
  intro p e s m args below meth c Q A S hA hP hD hK
  obtain ⟨hx, hb, hml, hown, hts⟩ := id S
  intro hret ls hl0 hS
  have hl : lv_has ls 4 [(0, .ref o), (1, .int a), (2, .int b)] := hl0
  cases wb
  · refine lv_aload_n hx hb d_M_sign_0 rfl (lv_at hl 0 rfl) ?_
    refine f_get S cls_M hK hP 0 rfl 7 (by decide) fl_M_place rfl rfl d_M_sign_1 ?_
    refine lv_aload_n hx hb d_M_sign_4 rfl (lv_at hl 0 rfl) ?_
    refine f_get S cls_M hK hP 0 rfl 6 (by decide) fl_M_padLength rfl rfl d_M_sign_5 ?_
    refine lv_icmp_ge (tgt := 23) hx hb d_M_sign_8 (by decide) (fun c_8 => ?_) (fun c_8 => ?_)
    · have e_8 : ¬ q < pl := by have := le_of_nI (by omega) (by omega) c_8; omega
      refine lv_iconst (v := 0) hx hb d_M_sign_23 (by decide) ?_
      refine lv_istore_n (lv' := [(3, .int 0), (0, .ref o), (1, .int a), (2, .int b)]) hx hb d_M_sign_24 rfl hl (by decide) rfl (fun ls hl => ?_)
      refine lv_aload_n hx hb d_M_sign_25 rfl (lv_at hl 1 rfl) ?_
      refine lv_aload_n hx hb d_M_sign_26 rfl (lv_at hl 1 rfl) ?_
      refine f_get S cls_M hK hP 0 rfl 8 (by decide) fl_M_isWrong rfl rfl d_M_sign_27 ?_
      refine lv_if_ne (tgt := 42) hx hb d_M_sign_30 (by decide) (fun q => absurd (by decide) q) (fun _ => ?_)
      refine lv_iload_n hx hb d_M_sign_33 rfl (lv_at hl 0 rfl) ?_
      refine lv_iload_n hx hb d_M_sign_34 rfl (lv_at hl 2 rfl) ?_
      refine lv_iload_n hx hb d_M_sign_35 rfl (lv_at hl 3 rfl) ?_
      refine RO.callS S (c_M_in l D ca  0 a b ) k_M_26 hK rfl rfl hl.1 ⟨Nat.le_of_ble_eq_true rfl, Nat.le_of_ble_eq_true rfl⟩ ⟨Nat.zero_le _, Nat.zero_le _⟩ (Nat.le_of_ble_eq_true rfl) d_M_sign_36 ?_
      refine lv_if_ne (tgt := 46) hx hb d_M_sign_39 (by decide) (fun c_39 => ?_) (fun c_39 => ?_)
      · refine lv_iconst (v := 0) hx hb d_M_sign_46 (by decide) ?_
        refine f_put S cls_M hK hP hD hS 0 rfl 8 (by decide) fl_M_isWrong rfl rfl (rfl) (rfl) (Nat.le_of_ble_eq_true rfl) d_M_sign_47 (fun H locs hP hD hS => ?_)
        have hP : va_P D classes [(o, .inr (4, [.ref sa, .ref ba, .int (nI kn), .ref sl, .ref sv, .ref pd, .int (nI pl), .int (nI q), .int 0, .int le, .int one, .int two, .int three])), (pd, .inl (ca 0, 80, .inl P))] H := hP
        have hD : va_D A [(o, .inr (4, [.ref sa, .ref ba, .int (nI kn), .ref sl, .ref sv, .ref pd, .int (nI pl), .int (nI q), .int 0, .int le, .int one, .int two, .int three])), (pd, .inl (ca 0, 80, .inl P))] := hD
        refine lv_aload_n hx hb d_M_sign_50 rfl (lv_at hl 1 rfl) ?_
        refine lv_dup hx hb d_M_sign_51 rfl ?_
        refine f_get S cls_M hK hP 0 rfl 7 (by decide) fl_M_place rfl rfl d_M_sign_52 ?_
        refine lv_aload_n hx hb d_M_sign_55 rfl (lv_at hl 1 rfl) ?_
        refine f_get S cls_M hK hP 0 rfl 8 (by decide) fl_M_isWrong rfl rfl d_M_sign_56 ?_
        refine lv_if_eq (tgt := 66) hx hb d_M_sign_59 (by decide) (fun _ => ?_) (fun q => absurd (by decide) q)
        refine lv_iconst (v := 1) hx hb d_M_sign_66 (by decide) ?_
        refine lv_iadd hx hb d_M_sign_67 ?_
        refine lv_tope (z := nI (q + 1)) (nI_add q 1) ?_
        refine f_put S cls_M hK hP hD hS 0 rfl 7 (by decide) fl_M_place rfl rfl (rfl) (rfl) (Nat.le_of_ble_eq_true rfl) d_M_sign_68 (fun H locs hP hD hS => ?_)
        have hP : va_P D classes [(o, .inr (4, [.ref sa, .ref ba, .int (nI kn), .ref sl, .ref sv, .ref pd, .int (nI pl), .int (nI (q + 1)), .int 0, .int le, .int one, .int two, .int three])), (pd, .inl (ca 0, 80, .inl P))] H := hP
        have hD : va_D A [(o, .inr (4, [.ref sa, .ref ba, .int (nI kn), .ref sl, .ref sv, .ref pd, .int (nI pl), .int (nI (q + 1)), .int 0, .int le, .int one, .int two, .int three])), (pd, .inl (ca 0, 80, .inl P))] := hD
        refine lv_iload_n hx hb d_M_sign_71 rfl (lv_at hl 0 rfl) ?_
        exact hret _ _ _ _ _ _ d_M_sign_72 rfl (by first | (simp only [sg, chr, Bool.false_eq_true, e_8, c_39, ↓reduceIte]; done) | (simp only [sg, chr, Bool.false_eq_true, e_8, c_39, ↓reduceIte]; rfl) | rfl) (by first | (simp only [sg, chr, Bool.false_eq_true, e_8, c_39, ↓reduceIte]; done) | (simp only [sg, chr, Bool.false_eq_true, e_8, c_39, ↓reduceIte]; rfl) | rfl) hP hD hS
      · refine lv_iconst (v := 1) hx hb d_M_sign_42 (by decide) ?_
        refine lv_goto (tgt := 47) hx hb d_M_sign_43 (by decide) ?_
        refine f_put S cls_M hK hP hD hS 0 rfl 8 (by decide) fl_M_isWrong rfl rfl (rfl) (rfl) (Nat.le_of_ble_eq_true rfl) d_M_sign_47 (fun H locs hP hD hS => ?_)
        have hP : va_P D classes [(o, .inr (4, [.ref sa, .ref ba, .int (nI kn), .ref sl, .ref sv, .ref pd, .int (nI pl), .int (nI q), .int 1, .int le, .int one, .int two, .int three])), (pd, .inl (ca 0, 80, .inl P))] H := hP
        have hD : va_D A [(o, .inr (4, [.ref sa, .ref ba, .int (nI kn), .ref sl, .ref sv, .ref pd, .int (nI pl), .int (nI q), .int 1, .int le, .int one, .int two, .int three])), (pd, .inl (ca 0, 80, .inl P))] := hD
        refine lv_aload_n hx hb d_M_sign_50 rfl (lv_at hl 1 rfl) ?_
        refine lv_dup hx hb d_M_sign_51 rfl ?_
        refine f_get S cls_M hK hP 0 rfl 7 (by decide) fl_M_place rfl rfl d_M_sign_52 ?_
        refine lv_aload_n hx hb d_M_sign_55 rfl (lv_at hl 1 rfl) ?_
        refine f_get S cls_M hK hP 0 rfl 8 (by decide) fl_M_isWrong rfl rfl d_M_sign_56 ?_
        refine lv_if_eq (tgt := 66) hx hb d_M_sign_59 (by decide) (fun q => absurd q (by decide)) (fun _ => ?_)
        refine lv_iconst (v := 0) hx hb d_M_sign_62 (by decide) ?_
        refine lv_goto (tgt := 67) hx hb d_M_sign_63 (by decide) ?_
        refine lv_iadd hx hb d_M_sign_67 ?_
        refine lv_tope (z := nI (q + 0)) (nI_add q 0) ?_
        refine f_put S cls_M hK hP hD hS 0 rfl 7 (by decide) fl_M_place rfl rfl (rfl) (rfl) (Nat.le_of_ble_eq_true rfl) d_M_sign_68 (fun H locs hP hD hS => ?_)
        have hP : va_P D classes [(o, .inr (4, [.ref sa, .ref ba, .int (nI kn), .ref sl, .ref sv, .ref pd, .int (nI pl), .int (nI (q + 0)), .int 1, .int le, .int one, .int two, .int three])), (pd, .inl (ca 0, 80, .inl P))] H := hP
        have hD : va_D A [(o, .inr (4, [.ref sa, .ref ba, .int (nI kn), .ref sl, .ref sv, .ref pd, .int (nI pl), .int (nI (q + 0)), .int 1, .int le, .int one, .int two, .int three])), (pd, .inl (ca 0, 80, .inl P))] := hD
        refine lv_iload_n hx hb d_M_sign_71 rfl (lv_at hl 0 rfl) ?_
        exact hret _ _ _ _ _ _ d_M_sign_72 rfl (by first | (simp only [sg, chr, Bool.false_eq_true, e_8, c_39, ↓reduceIte]; done) | (simp only [sg, chr, Bool.false_eq_true, e_8, c_39, ↓reduceIte]; rfl) | rfl) (by first | (simp only [sg, chr, Bool.false_eq_true, e_8, c_39, ↓reduceIte]; done) | (simp only [sg, chr, Bool.false_eq_true, e_8, c_39, ↓reduceIte]; rfl) | rfl) hP hD hS
    · have e_8 : q < pl := nle_lt (by omega) (by omega) c_8
      refine lv_aload_n hx hb d_M_sign_11 rfl (lv_at hl 0 rfl) ?_
      refine f_get S cls_M hK hP 0 rfl 5 (by decide) fl_M_pad rfl rfl d_M_sign_12 ?_
      refine lv_aload_n hx hb d_M_sign_15 rfl (lv_at hl 0 rfl) ?_
      refine f_get S cls_M hK hP 0 rfl 7 (by decide) fl_M_place rfl rfl d_M_sign_16 ?_
      refine A_ild S hK hP 1 0 (f := P) rfl rfl (r := q) (by omega) (by decide) rfl d_M_sign_19 ?_
      refine lv_goto (tgt := 24) hx hb d_M_sign_20 (by decide) ?_
      refine lv_istore_n (lv' := [(3, .int (P q)), (0, .ref o), (1, .int a), (2, .int b)]) hx hb d_M_sign_24 rfl hl (by decide) rfl (fun ls hl => ?_)
      refine lv_aload_n hx hb d_M_sign_25 rfl (lv_at hl 1 rfl) ?_
      refine lv_aload_n hx hb d_M_sign_26 rfl (lv_at hl 1 rfl) ?_
      refine f_get S cls_M hK hP 0 rfl 8 (by decide) fl_M_isWrong rfl rfl d_M_sign_27 ?_
      refine lv_if_ne (tgt := 42) hx hb d_M_sign_30 (by decide) (fun q => absurd (by decide) q) (fun _ => ?_)
      refine lv_iload_n hx hb d_M_sign_33 rfl (lv_at hl 0 rfl) ?_
      refine lv_iload_n hx hb d_M_sign_34 rfl (lv_at hl 2 rfl) ?_
      refine lv_iload_n hx hb d_M_sign_35 rfl (lv_at hl 3 rfl) ?_
      refine RO.callS S (c_M_in l D ca  (P q) a b ) k_M_26 hK rfl rfl hl.1 ⟨Nat.le_of_ble_eq_true rfl, Nat.le_of_ble_eq_true rfl⟩ ⟨Nat.zero_le _, Nat.zero_le _⟩ (Nat.le_of_ble_eq_true rfl) d_M_sign_36 ?_
      refine lv_if_ne (tgt := 46) hx hb d_M_sign_39 (by decide) (fun c_39 => ?_) (fun c_39 => ?_)
      · refine lv_iconst (v := 0) hx hb d_M_sign_46 (by decide) ?_
        refine f_put S cls_M hK hP hD hS 0 rfl 8 (by decide) fl_M_isWrong rfl rfl (rfl) (rfl) (Nat.le_of_ble_eq_true rfl) d_M_sign_47 (fun H locs hP hD hS => ?_)
        have hP : va_P D classes [(o, .inr (4, [.ref sa, .ref ba, .int (nI kn), .ref sl, .ref sv, .ref pd, .int (nI pl), .int (nI q), .int 0, .int le, .int one, .int two, .int three])), (pd, .inl (ca 0, 80, .inl P))] H := hP
        have hD : va_D A [(o, .inr (4, [.ref sa, .ref ba, .int (nI kn), .ref sl, .ref sv, .ref pd, .int (nI pl), .int (nI q), .int 0, .int le, .int one, .int two, .int three])), (pd, .inl (ca 0, 80, .inl P))] := hD
        refine lv_aload_n hx hb d_M_sign_50 rfl (lv_at hl 1 rfl) ?_
        refine lv_dup hx hb d_M_sign_51 rfl ?_
        refine f_get S cls_M hK hP 0 rfl 7 (by decide) fl_M_place rfl rfl d_M_sign_52 ?_
        refine lv_aload_n hx hb d_M_sign_55 rfl (lv_at hl 1 rfl) ?_
        refine f_get S cls_M hK hP 0 rfl 8 (by decide) fl_M_isWrong rfl rfl d_M_sign_56 ?_
        refine lv_if_eq (tgt := 66) hx hb d_M_sign_59 (by decide) (fun _ => ?_) (fun q => absurd (by decide) q)
        refine lv_iconst (v := 1) hx hb d_M_sign_66 (by decide) ?_
        refine lv_iadd hx hb d_M_sign_67 ?_
        refine lv_tope (z := nI (q + 1)) (nI_add q 1) ?_
        refine f_put S cls_M hK hP hD hS 0 rfl 7 (by decide) fl_M_place rfl rfl (rfl) (rfl) (Nat.le_of_ble_eq_true rfl) d_M_sign_68 (fun H locs hP hD hS => ?_)
        have hP : va_P D classes [(o, .inr (4, [.ref sa, .ref ba, .int (nI kn), .ref sl, .ref sv, .ref pd, .int (nI pl), .int (nI (q + 1)), .int 0, .int le, .int one, .int two, .int three])), (pd, .inl (ca 0, 80, .inl P))] H := hP
        have hD : va_D A [(o, .inr (4, [.ref sa, .ref ba, .int (nI kn), .ref sl, .ref sv, .ref pd, .int (nI pl), .int (nI (q + 1)), .int 0, .int le, .int one, .int two, .int three])), (pd, .inl (ca 0, 80, .inl P))] := hD
        refine lv_iload_n hx hb d_M_sign_71 rfl (lv_at hl 0 rfl) ?_
        exact hret _ _ _ _ _ _ d_M_sign_72 rfl (by first | (simp only [sg, chr, Bool.false_eq_true, e_8, c_39, ↓reduceIte]; done) | (simp only [sg, chr, Bool.false_eq_true, e_8, c_39, ↓reduceIte]; rfl) | rfl) (by first | (simp only [sg, chr, Bool.false_eq_true, e_8, c_39, ↓reduceIte]; done) | (simp only [sg, chr, Bool.false_eq_true, e_8, c_39, ↓reduceIte]; rfl) | rfl) hP hD hS
      · refine lv_iconst (v := 1) hx hb d_M_sign_42 (by decide) ?_
        refine lv_goto (tgt := 47) hx hb d_M_sign_43 (by decide) ?_
        refine f_put S cls_M hK hP hD hS 0 rfl 8 (by decide) fl_M_isWrong rfl rfl (rfl) (rfl) (Nat.le_of_ble_eq_true rfl) d_M_sign_47 (fun H locs hP hD hS => ?_)
        have hP : va_P D classes [(o, .inr (4, [.ref sa, .ref ba, .int (nI kn), .ref sl, .ref sv, .ref pd, .int (nI pl), .int (nI q), .int 1, .int le, .int one, .int two, .int three])), (pd, .inl (ca 0, 80, .inl P))] H := hP
        have hD : va_D A [(o, .inr (4, [.ref sa, .ref ba, .int (nI kn), .ref sl, .ref sv, .ref pd, .int (nI pl), .int (nI q), .int 1, .int le, .int one, .int two, .int three])), (pd, .inl (ca 0, 80, .inl P))] := hD
        refine lv_aload_n hx hb d_M_sign_50 rfl (lv_at hl 1 rfl) ?_
        refine lv_dup hx hb d_M_sign_51 rfl ?_
        refine f_get S cls_M hK hP 0 rfl 7 (by decide) fl_M_place rfl rfl d_M_sign_52 ?_
        refine lv_aload_n hx hb d_M_sign_55 rfl (lv_at hl 1 rfl) ?_
        refine f_get S cls_M hK hP 0 rfl 8 (by decide) fl_M_isWrong rfl rfl d_M_sign_56 ?_
        refine lv_if_eq (tgt := 66) hx hb d_M_sign_59 (by decide) (fun q => absurd q (by decide)) (fun _ => ?_)
        refine lv_iconst (v := 0) hx hb d_M_sign_62 (by decide) ?_
        refine lv_goto (tgt := 67) hx hb d_M_sign_63 (by decide) ?_
        refine lv_iadd hx hb d_M_sign_67 ?_
        refine lv_tope (z := nI (q + 0)) (nI_add q 0) ?_
        refine f_put S cls_M hK hP hD hS 0 rfl 7 (by decide) fl_M_place rfl rfl (rfl) (rfl) (Nat.le_of_ble_eq_true rfl) d_M_sign_68 (fun H locs hP hD hS => ?_)
        have hP : va_P D classes [(o, .inr (4, [.ref sa, .ref ba, .int (nI kn), .ref sl, .ref sv, .ref pd, .int (nI pl), .int (nI (q + 0)), .int 1, .int le, .int one, .int two, .int three])), (pd, .inl (ca 0, 80, .inl P))] H := hP
        have hD : va_D A [(o, .inr (4, [.ref sa, .ref ba, .int (nI kn), .ref sl, .ref sv, .ref pd, .int (nI pl), .int (nI (q + 0)), .int 1, .int le, .int one, .int two, .int three])), (pd, .inl (ca 0, 80, .inl P))] := hD
        refine lv_iload_n hx hb d_M_sign_71 rfl (lv_at hl 0 rfl) ?_
        exact hret _ _ _ _ _ _ d_M_sign_72 rfl (by first | (simp only [sg, chr, Bool.false_eq_true, e_8, c_39, ↓reduceIte]; done) | (simp only [sg, chr, Bool.false_eq_true, e_8, c_39, ↓reduceIte]; rfl) | rfl) (by first | (simp only [sg, chr, Bool.false_eq_true, e_8, c_39, ↓reduceIte]; done) | (simp only [sg, chr, Bool.false_eq_true, e_8, c_39, ↓reduceIte]; rfl) | rfl) hP hD hS
  · refine lv_aload_n hx hb d_M_sign_0 rfl (lv_at hl 0 rfl) ?_
    refine f_get S cls_M hK hP 0 rfl 7 (by decide) fl_M_place rfl rfl d_M_sign_1 ?_
    refine lv_aload_n hx hb d_M_sign_4 rfl (lv_at hl 0 rfl) ?_
    refine f_get S cls_M hK hP 0 rfl 6 (by decide) fl_M_padLength rfl rfl d_M_sign_5 ?_
    refine lv_icmp_ge (tgt := 23) hx hb d_M_sign_8 (by decide) (fun c_8 => ?_) (fun c_8 => ?_)
    · have e_8 : ¬ q < pl := by have := le_of_nI (by omega) (by omega) c_8; omega
      refine lv_iconst (v := 0) hx hb d_M_sign_23 (by decide) ?_
      refine lv_istore_n (lv' := [(3, .int 0), (0, .ref o), (1, .int a), (2, .int b)]) hx hb d_M_sign_24 rfl hl (by decide) rfl (fun ls hl => ?_)
      refine lv_aload_n hx hb d_M_sign_25 rfl (lv_at hl 1 rfl) ?_
      refine lv_aload_n hx hb d_M_sign_26 rfl (lv_at hl 1 rfl) ?_
      refine f_get S cls_M hK hP 0 rfl 8 (by decide) fl_M_isWrong rfl rfl d_M_sign_27 ?_
      refine lv_if_ne (tgt := 42) hx hb d_M_sign_30 (by decide) (fun _ => ?_) (fun q => absurd q (by decide))
      refine lv_iconst (v := 1) hx hb d_M_sign_42 (by decide) ?_
      refine lv_goto (tgt := 47) hx hb d_M_sign_43 (by decide) ?_
      refine f_put S cls_M hK hP hD hS 0 rfl 8 (by decide) fl_M_isWrong rfl rfl (rfl) (rfl) (Nat.le_of_ble_eq_true rfl) d_M_sign_47 (fun H locs hP hD hS => ?_)
      have hP : va_P D classes [(o, .inr (4, [.ref sa, .ref ba, .int (nI kn), .ref sl, .ref sv, .ref pd, .int (nI pl), .int (nI q), .int 1, .int le, .int one, .int two, .int three])), (pd, .inl (ca 0, 80, .inl P))] H := hP
      have hD : va_D A [(o, .inr (4, [.ref sa, .ref ba, .int (nI kn), .ref sl, .ref sv, .ref pd, .int (nI pl), .int (nI q), .int 1, .int le, .int one, .int two, .int three])), (pd, .inl (ca 0, 80, .inl P))] := hD
      refine lv_aload_n hx hb d_M_sign_50 rfl (lv_at hl 1 rfl) ?_
      refine lv_dup hx hb d_M_sign_51 rfl ?_
      refine f_get S cls_M hK hP 0 rfl 7 (by decide) fl_M_place rfl rfl d_M_sign_52 ?_
      refine lv_aload_n hx hb d_M_sign_55 rfl (lv_at hl 1 rfl) ?_
      refine f_get S cls_M hK hP 0 rfl 8 (by decide) fl_M_isWrong rfl rfl d_M_sign_56 ?_
      refine lv_if_eq (tgt := 66) hx hb d_M_sign_59 (by decide) (fun q => absurd q (by decide)) (fun _ => ?_)
      refine lv_iconst (v := 0) hx hb d_M_sign_62 (by decide) ?_
      refine lv_goto (tgt := 67) hx hb d_M_sign_63 (by decide) ?_
      refine lv_iadd hx hb d_M_sign_67 ?_
      refine lv_tope (z := nI (q + 0)) (nI_add q 0) ?_
      refine f_put S cls_M hK hP hD hS 0 rfl 7 (by decide) fl_M_place rfl rfl (rfl) (rfl) (Nat.le_of_ble_eq_true rfl) d_M_sign_68 (fun H locs hP hD hS => ?_)
      have hP : va_P D classes [(o, .inr (4, [.ref sa, .ref ba, .int (nI kn), .ref sl, .ref sv, .ref pd, .int (nI pl), .int (nI (q + 0)), .int 1, .int le, .int one, .int two, .int three])), (pd, .inl (ca 0, 80, .inl P))] H := hP
      have hD : va_D A [(o, .inr (4, [.ref sa, .ref ba, .int (nI kn), .ref sl, .ref sv, .ref pd, .int (nI pl), .int (nI (q + 0)), .int 1, .int le, .int one, .int two, .int three])), (pd, .inl (ca 0, 80, .inl P))] := hD
      refine lv_iload_n hx hb d_M_sign_71 rfl (lv_at hl 0 rfl) ?_
      exact hret _ _ _ _ _ _ d_M_sign_72 rfl (by first | (simp only [sg, chr, Bool.false_eq_true, e_8, ↓reduceIte]; done) | (simp only [sg, chr, Bool.false_eq_true, e_8, ↓reduceIte]; rfl) | rfl) (by first | (simp only [sg, chr, Bool.false_eq_true, e_8, ↓reduceIte]; done) | (simp only [sg, chr, Bool.false_eq_true, e_8, ↓reduceIte]; rfl) | rfl) hP hD hS
    · have e_8 : q < pl := nle_lt (by omega) (by omega) c_8
      refine lv_aload_n hx hb d_M_sign_11 rfl (lv_at hl 0 rfl) ?_
      refine f_get S cls_M hK hP 0 rfl 5 (by decide) fl_M_pad rfl rfl d_M_sign_12 ?_
      refine lv_aload_n hx hb d_M_sign_15 rfl (lv_at hl 0 rfl) ?_
      refine f_get S cls_M hK hP 0 rfl 7 (by decide) fl_M_place rfl rfl d_M_sign_16 ?_
      refine A_ild S hK hP 1 0 (f := P) rfl rfl (r := q) (by omega) (by decide) rfl d_M_sign_19 ?_
      refine lv_goto (tgt := 24) hx hb d_M_sign_20 (by decide) ?_
      refine lv_istore_n (lv' := [(3, .int (P q)), (0, .ref o), (1, .int a), (2, .int b)]) hx hb d_M_sign_24 rfl hl (by decide) rfl (fun ls hl => ?_)
      refine lv_aload_n hx hb d_M_sign_25 rfl (lv_at hl 1 rfl) ?_
      refine lv_aload_n hx hb d_M_sign_26 rfl (lv_at hl 1 rfl) ?_
      refine f_get S cls_M hK hP 0 rfl 8 (by decide) fl_M_isWrong rfl rfl d_M_sign_27 ?_
      refine lv_if_ne (tgt := 42) hx hb d_M_sign_30 (by decide) (fun _ => ?_) (fun q => absurd q (by decide))
      refine lv_iconst (v := 1) hx hb d_M_sign_42 (by decide) ?_
      refine lv_goto (tgt := 47) hx hb d_M_sign_43 (by decide) ?_
      refine f_put S cls_M hK hP hD hS 0 rfl 8 (by decide) fl_M_isWrong rfl rfl (rfl) (rfl) (Nat.le_of_ble_eq_true rfl) d_M_sign_47 (fun H locs hP hD hS => ?_)
      have hP : va_P D classes [(o, .inr (4, [.ref sa, .ref ba, .int (nI kn), .ref sl, .ref sv, .ref pd, .int (nI pl), .int (nI q), .int 1, .int le, .int one, .int two, .int three])), (pd, .inl (ca 0, 80, .inl P))] H := hP
      have hD : va_D A [(o, .inr (4, [.ref sa, .ref ba, .int (nI kn), .ref sl, .ref sv, .ref pd, .int (nI pl), .int (nI q), .int 1, .int le, .int one, .int two, .int three])), (pd, .inl (ca 0, 80, .inl P))] := hD
      refine lv_aload_n hx hb d_M_sign_50 rfl (lv_at hl 1 rfl) ?_
      refine lv_dup hx hb d_M_sign_51 rfl ?_
      refine f_get S cls_M hK hP 0 rfl 7 (by decide) fl_M_place rfl rfl d_M_sign_52 ?_
      refine lv_aload_n hx hb d_M_sign_55 rfl (lv_at hl 1 rfl) ?_
      refine f_get S cls_M hK hP 0 rfl 8 (by decide) fl_M_isWrong rfl rfl d_M_sign_56 ?_
      refine lv_if_eq (tgt := 66) hx hb d_M_sign_59 (by decide) (fun q => absurd q (by decide)) (fun _ => ?_)
      refine lv_iconst (v := 0) hx hb d_M_sign_62 (by decide) ?_
      refine lv_goto (tgt := 67) hx hb d_M_sign_63 (by decide) ?_
      refine lv_iadd hx hb d_M_sign_67 ?_
      refine lv_tope (z := nI (q + 0)) (nI_add q 0) ?_
      refine f_put S cls_M hK hP hD hS 0 rfl 7 (by decide) fl_M_place rfl rfl (rfl) (rfl) (Nat.le_of_ble_eq_true rfl) d_M_sign_68 (fun H locs hP hD hS => ?_)
      have hP : va_P D classes [(o, .inr (4, [.ref sa, .ref ba, .int (nI kn), .ref sl, .ref sv, .ref pd, .int (nI pl), .int (nI (q + 0)), .int 1, .int le, .int one, .int two, .int three])), (pd, .inl (ca 0, 80, .inl P))] H := hP
      have hD : va_D A [(o, .inr (4, [.ref sa, .ref ba, .int (nI kn), .ref sl, .ref sv, .ref pd, .int (nI pl), .int (nI (q + 0)), .int 1, .int le, .int one, .int two, .int three])), (pd, .inl (ca 0, 80, .inl P))] := hD
      refine lv_iload_n hx hb d_M_sign_71 rfl (lv_at hl 0 rfl) ?_
      exact hret _ _ _ _ _ _ d_M_sign_72 rfl (by first | (simp only [sg, chr, Bool.false_eq_true, e_8, ↓reduceIte]; done) | (simp only [sg, chr, Bool.false_eq_true, e_8, ↓reduceIte]; rfl) | rfl) (by first | (simp only [sg, chr, Bool.false_eq_true, e_8, ↓reduceIte]; done) | (simp only [sg, chr, Bool.false_eq_true, e_8, ↓reduceIte]; rfl) | rfl) hP hD hS
set_option maxHeartbeats 4000000 in
set_option maxRecDepth 100000 in
theorem c_M_isNext (l : Launch) (D : va_G) (ca : Nat → ClassId) (o sa ba sl sv pd : Nat) (P : Nat → Int32) (kn pl q : Nat) (wb : Bool) (le one two three : Int32) (a b : Int32) (hpl : pl ≤ 80) (hq : q ≤ pl) : RO l y_M_isNext b_M_isNext 3 (some .boolean) 1 22 D ca [.ref o, .int a, .int b] [(o, .inr (4, [.ref sa, .ref ba, .int (nI kn), .ref sl, .ref sv, .ref pd, .int (nI pl), .int (nI q), .int (b2 wb), .int le, .int one, .int two, .int three])), (pd, .inl (ca 0, 80, .inl P))] (b2 (nx P pl a b (q, wb))) := by
  refine RO.mk (ty := .boolean) rfl rfl (Nat.le_of_ble_eq_true rfl) ?_
  intro p e s m args below meth c Q S hP hK
  obtain ⟨hx, hb, hml, hown, hts⟩ := id S
  intro hret ls hl0
  have hl : lv_has ls 3 [(0, .ref o), (1, .int a), (2, .int b)] := hl0
  cases wb
  · refine lv_aload_n hx hb d_M_isNext_0 rfl (lv_at hl 0 rfl) ?_
    refine f_get S cls_M hK hP 0 rfl 8 (by decide) fl_M_isWrong rfl rfl d_M_isNext_1 ?_
    refine lv_if_ne (tgt := 39) hx hb d_M_isNext_4 (by decide) (fun q => absurd (by decide) q) (fun _ => ?_)
    refine lv_aload_n hx hb d_M_isNext_7 rfl (lv_at hl 0 rfl) ?_
    refine f_get S cls_M hK hP 0 rfl 7 (by decide) fl_M_place rfl rfl d_M_isNext_8 ?_
    refine lv_aload_n hx hb d_M_isNext_11 rfl (lv_at hl 0 rfl) ?_
    refine f_get S cls_M hK hP 0 rfl 6 (by decide) fl_M_padLength rfl rfl d_M_isNext_12 ?_
    refine lv_icmp_ge (tgt := 39) hx hb d_M_isNext_15 (by decide) (fun c_15 => ?_) (fun c_15 => ?_)
    · have e_15 : ¬ q < pl := by have := le_of_nI (by omega) (by omega) c_15; omega
      refine lv_iconst (v := 0) hx hb d_M_isNext_39 (by decide) ?_
      exact hret _ _ _ d_M_isNext_40 rfl (by first | (simp only [nx, Bool.false_eq_true, e_15, ↓reduceIte]; done) | (simp only [nx, Bool.false_eq_true, e_15, ↓reduceIte]; rfl) | rfl)
    · have e_15 : q < pl := nle_lt (by omega) (by omega) c_15
      refine lv_aload_n hx hb d_M_isNext_18 rfl (lv_at hl 0 rfl) ?_
      refine f_get S cls_M hK hP 0 rfl 5 (by decide) fl_M_pad rfl rfl d_M_isNext_19 ?_
      refine lv_aload_n hx hb d_M_isNext_22 rfl (lv_at hl 0 rfl) ?_
      refine f_get S cls_M hK hP 0 rfl 7 (by decide) fl_M_place rfl rfl d_M_isNext_23 ?_
      refine A_ild S hK hP 1 0 (f := P) rfl rfl (r := q) (by omega) (by decide) rfl d_M_isNext_26 ?_
      refine lv_iload_n hx hb d_M_isNext_27 rfl (lv_at hl 1 rfl) ?_
      refine lv_iload_n hx hb d_M_isNext_28 rfl (lv_at hl 2 rfl) ?_
      refine RO.callS S (c_M_in l D ca  (P q) a b ) k_M_26 hK rfl rfl hl.1 ⟨Nat.le_of_ble_eq_true rfl, Nat.le_of_ble_eq_true rfl⟩ ⟨Nat.zero_le _, Nat.zero_le _⟩ (Nat.le_of_ble_eq_true rfl) d_M_isNext_29 ?_
      refine lv_if_eq (tgt := 39) hx hb d_M_isNext_32 (by decide) (fun c_32 => ?_) (fun c_32 => ?_)
      · refine lv_iconst (v := 0) hx hb d_M_isNext_39 (by decide) ?_
        exact hret _ _ _ d_M_isNext_40 rfl (by first | (simp only [nx, Bool.false_eq_true, e_15, c_32, ↓reduceIte]; done) | (simp only [nx, Bool.false_eq_true, e_15, c_32, ↓reduceIte]; rfl) | rfl)
      · refine lv_iconst (v := 1) hx hb d_M_isNext_35 (by decide) ?_
        refine lv_goto (tgt := 40) hx hb d_M_isNext_36 (by decide) ?_
        exact hret _ _ _ d_M_isNext_40 rfl (by first | (simp only [nx, Bool.false_eq_true, e_15, c_32, ↓reduceIte]; done) | (simp only [nx, Bool.false_eq_true, e_15, c_32, ↓reduceIte]; rfl) | rfl)
  · refine lv_aload_n hx hb d_M_isNext_0 rfl (lv_at hl 0 rfl) ?_
    refine f_get S cls_M hK hP 0 rfl 8 (by decide) fl_M_isWrong rfl rfl d_M_isNext_1 ?_
    refine lv_if_ne (tgt := 39) hx hb d_M_isNext_4 (by decide) (fun _ => ?_) (fun q => absurd q (by decide))
    refine lv_iconst (v := 0) hx hb d_M_isNext_39 (by decide) ?_
    exact hret _ _ _ d_M_isNext_40 rfl (by first | (simp only [nx, Bool.false_eq_true, ↓reduceIte]; done) | (simp only [nx, Bool.false_eq_true, ↓reduceIte]; rfl) | rfl)
set_option maxHeartbeats 4000000 in
set_option maxRecDepth 100000 in
theorem c_M_number (l : Launch) (D : va_G) (ca : Nat → ClassId) (o sa ba sl sv pd : Nat) (P : Nat → Int32) (kn pl q : Nat) (wb : Bool) (le one two three : Int32) (hpl : pl ≤ 80) (hq : q ≤ pl) : MI l y_M_number b_M_number 3 (some .int) 2 45 D ca [.ref o] [(o, .inr (4, [.ref sa, .ref ba, .int (nI kn), .ref sl, .ref sv, .ref pd, .int (nI pl), .int (nI q), .int (b2 wb), .int le, .int one, .int two, .int three])), (pd, .inl (ca 0, 80, .inl P))] ((nm P pl (q, wb)).1) [(o, .inr (4, [.ref sa, .ref ba, .int (nI kn), .ref sl, .ref sv, .ref pd, .int (nI pl), .int (nI ((nm P pl (q, wb)).2.1)), .int (b2 (nm P pl (q, wb)).2.2), .int le, .int one, .int two, .int three])), (pd, .inl (ca 0, 80, .inl P))] := by
  refine MI.mk (ty := .int) rfl rfl (Nat.le_of_ble_eq_true rfl) ?_
  intro p e s m args below meth c Q A S hA hP hD hK
  obtain ⟨hx, hb, hml, hown, hts⟩ := id S
  intro hret ls hl0 hS
  have hl : lv_has ls 3 [(0, .ref o)] := hl0
  refine lv_aload_n hx hb d_M_number_0 rfl (lv_at hl 0 rfl) ?_
  refine lv_bipush (v := 48) hx hb d_M_number_1 (by decide) ?_
  refine lv_bipush (v := 57) hx hb d_M_number_3 (by decide) ?_
  refine MI.callV (wr := []) S (c_M_sign l D ca  o sa ba sl sv pd P kn pl q wb le one two three 48 57 (by omega) (by omega)) k_M_130 hP hD hS hA hK [0, 1] [] rfl rfl (by decide) (by decide) (by decide) 0 (ci := 4) (fs := [.ref sa, .ref ba, .int (nI kn), .ref sl, .ref sv, .ref pd, .int (nI pl), .int (nI q), .int (b2 wb), .int le, .int one, .int two, .int three]) rfl rfl rfl rfl hl.1 ⟨Nat.le_of_ble_eq_true rfl, Nat.le_of_ble_eq_true rfl⟩ ⟨Nat.zero_le _, Nat.zero_le _⟩ (Nat.le_of_ble_eq_true rfl) d_M_number_5 (fun H locs hP hD hS => ?_)
  have hP : va_P D classes [(o, .inr (4, [.ref sa, .ref ba, .int (nI kn), .ref sl, .ref sv, .ref pd, .int (nI pl), .int (nI ((sg P pl 48 57 (q, wb)).1)), .int (b2 (sg P pl 48 57 (q, wb)).2), .int le, .int one, .int two, .int three])), (pd, .inl (ca 0, 80, .inl P))] H := hP
  have hD : va_D A [(o, .inr (4, [.ref sa, .ref ba, .int (nI kn), .ref sl, .ref sv, .ref pd, .int (nI pl), .int (nI ((sg P pl 48 57 (q, wb)).1)), .int (b2 (sg P pl 48 57 (q, wb)).2), .int le, .int one, .int two, .int three])), (pd, .inl (ca 0, 80, .inl P))] := hD
  refine lv_bipush (v := 48) hx hb d_M_number_8 (by decide) ?_
  refine lv_isub hx hb d_M_number_10 ?_
  refine lv_istore_n (lv' := [(1, .int ((chr P pl q) - 48)), (0, .ref o)]) hx hb d_M_number_11 rfl hl (by decide) rfl (fun ls hl => ?_)
  refine lv_iconst (v := 1) hx hb d_M_number_12 (by decide) ?_
  refine lv_istore_n (lv' := [(2, .int 1), (1, .int ((chr P pl q) - 48)), (0, .ref o)]) hx hb d_M_number_13 rfl hl (by decide) rfl (fun ls hl => ?_)
  have h0 := sg_bd (P := P) (n := pl) (a := 48) (b := 57) (q := (q, wb)) (by decide) hq
  suffices lp : ∀ (r k : Nat) (v : Int32) (q2 : Nat × Bool), 4 - k < r → k ≤ 4 → q2.1 ≤ pl → nm P pl (q, wb) = nml P pl (4 - k) v q2 → ∀ (H : Heap) (locs : List Loc), va_P D classes [(o, .inr (4, [.ref sa, .ref ba, .int (nI kn), .ref sl, .ref sv, .ref pd, .int (nI pl), .int (nI q2.1), .int (b2 q2.2), .int le, .int one, .int two, .int three])), (pd, .inl (ca 0, 80, .inl P))] H → va_D A [(o, .inr (4, [.ref sa, .ref ba, .int (nI kn), .ref sl, .ref sv, .ref pd, .int (nI pl), .int (nI q2.1), .int (b2 q2.2), .int le, .int one, .int two, .int three])), (pd, .inl (ca 0, 80, .inl P))] → va_S A s.heap H locs → ∀ ls : Array Slot, lv_has ls 3 [(2, .int (nI k)), (1, .int v), (0, .ref o)] → W p l e (rm 2 45 0 0) s m args below meth c H locs 0 0 Q (F0 m 14 ls []) from lp 5 1 _ _ (by omega) (by omega) h0.2 rfl _ _ hP hD hS _ (lv_sub hl [0, 1, 2] rfl)
  intro r
  induction r with
  | zero => intro k v q2 hk; omega
  | succ r ih =>
    intro k v q2 hk hkn hq2 hE H locs hP hD hS ls hl
    refine lv_iload_n hx hb d_M_number_14 rfl (lv_at hl 0 rfl) ?_
    refine lv_iconst (v := 4) hx hb d_M_number_15 (by decide) ?_
    refine lv_icmp_ge (tgt := 57) hx hb d_M_number_16 (by decide) (fun c_16 => ?_) (fun c_16 => ?_)
    · have e_16 : 4 ≤ k := le_of_nI (by omega) (by omega) (show nI 4 ≤ nI k from c_16)
      obtain rfl : k = 4 := by omega
      have hR : nm P pl (q, wb) = (v, q2) := hE
      refine lv_iload_n hx hb d_M_number_57 rfl (lv_at hl 1 rfl) ?_
      exact hret _ _ _ _ _ _ d_M_number_58 rfl (by rw [hR]) (by rw [hR]) hP hD hS
    · have e_16 : k < 4 := nle_lt (by omega) (by omega) (show ¬ nI 4 ≤ nI k from c_16)
      rw [show 4 - k = (4 - (k + 1)) + 1 by omega] at hE
      refine lv_iload_n hx hb d_M_number_19 rfl (lv_at hl 1 rfl) ?_
      refine lv_if_le (tgt := 57) hx hb d_M_number_20 (by decide) (fun c_20 => ?_) (fun c_20 => ?_)
      · have c2_20 : ¬ 0 < v := Int32.not_lt.mpr c_20
        have hR : nm P pl (q, wb) = (v, q2) := by rw [hE]; simp only [nml, c2_20, ↓reduceIte]
        refine lv_iload_n hx hb d_M_number_57 rfl (lv_at hl 1 rfl) ?_
        exact hret _ _ _ _ _ _ d_M_number_58 rfl (by rw [hR]) (by rw [hR]) hP hD hS
      · have c2_20 : 0 < v := Int32.not_le.mp c_20
        refine lv_aload_n hx hb d_M_number_23 rfl (lv_at hl 2 rfl) ?_
        refine lv_bipush (v := 48) hx hb d_M_number_24 (by decide) ?_
        refine lv_bipush (v := 57) hx hb d_M_number_26 (by decide) ?_
        refine RO.callV S (c_M_isNext l D ca  o sa ba sl sv pd P kn pl q2.1 q2.2 le one two three 48 57 (by omega) (by omega)) k_M_133 hP hK [0, 1] rfl 0 (ci := 4) (fs := [.ref sa, .ref ba, .int (nI kn), .ref sl, .ref sv, .ref pd, .int (nI pl), .int (nI q2.1), .int (b2 q2.2), .int le, .int one, .int two, .int three]) rfl rfl rfl rfl hl.1 ⟨Nat.le_of_ble_eq_true rfl, Nat.le_of_ble_eq_true rfl⟩ ⟨Nat.zero_le _, Nat.zero_le _⟩ (Nat.le_of_ble_eq_true rfl) d_M_number_28 ?_
        refine lv_if_eq (tgt := 57) hx hb d_M_number_31 (by decide) (fun c_31 => ?_) (fun c_31 => ?_)
        · have hR : nm P pl (q, wb) = (v, q2) := by rw [hE]; simp only [nml, c2_20, b2_z (b := nx P pl 48 57 q2) c_31, Bool.false_eq_true, ↓reduceIte]
          refine lv_iload_n hx hb d_M_number_57 rfl (lv_at hl 1 rfl) ?_
          exact hret _ _ _ _ _ _ d_M_number_58 rfl (by rw [hR]) (by rw [hR]) hP hD hS
        · have e_31 : nx P pl 48 57 q2 = true := b2_n c_31
          refine lv_bipush (v := 10) hx hb d_M_number_34 (by decide) ?_
          refine lv_iload_n hx hb d_M_number_36 rfl (lv_at hl 1 rfl) ?_
          refine lv_imul hx hb d_M_number_37 ?_
          refine lv_aload_n hx hb d_M_number_38 rfl (lv_at hl 2 rfl) ?_
          refine lv_bipush (v := 48) hx hb d_M_number_39 (by decide) ?_
          refine lv_bipush (v := 57) hx hb d_M_number_41 (by decide) ?_
          refine MI.callV (wr := []) S (c_M_sign l D ca  o sa ba sl sv pd P kn pl q2.1 q2.2 le one two three 48 57 (by omega) (by omega)) k_M_130 hP hD hS hA hK [0, 1] [] rfl rfl (by decide) (by decide) (by decide) 0 (ci := 4) (fs := [.ref sa, .ref ba, .int (nI kn), .ref sl, .ref sv, .ref pd, .int (nI pl), .int (nI q2.1), .int (b2 q2.2), .int le, .int one, .int two, .int three]) rfl rfl rfl rfl hl.1 ⟨Nat.le_of_ble_eq_true rfl, Nat.le_of_ble_eq_true rfl⟩ ⟨Nat.zero_le _, Nat.zero_le _⟩ (Nat.le_of_ble_eq_true rfl) d_M_number_43 (fun H locs hP hD hS => ?_)
          have hP : va_P D classes [(o, .inr (4, [.ref sa, .ref ba, .int (nI kn), .ref sl, .ref sv, .ref pd, .int (nI pl), .int (nI ((sg P pl 48 57 (q2.1, q2.2)).1)), .int (b2 (sg P pl 48 57 (q2.1, q2.2)).2), .int le, .int one, .int two, .int three])), (pd, .inl (ca 0, 80, .inl P))] H := hP
          have hD : va_D A [(o, .inr (4, [.ref sa, .ref ba, .int (nI kn), .ref sl, .ref sv, .ref pd, .int (nI pl), .int (nI ((sg P pl 48 57 (q2.1, q2.2)).1)), .int (b2 (sg P pl 48 57 (q2.1, q2.2)).2), .int le, .int one, .int two, .int three])), (pd, .inl (ca 0, 80, .inl P))] := hD
          refine lv_iadd hx hb d_M_number_46 ?_
          refine lv_bipush (v := 48) hx hb d_M_number_47 (by decide) ?_
          refine lv_isub hx hb d_M_number_49 ?_
          refine lv_istore_n (lv' := [(1, .int (((10 * v) + (chr P pl q2.1)) - 48)), (2, .int (nI k)), (0, .ref o)]) hx hb d_M_number_50 rfl hl (by decide) rfl (fun ls hl => ?_)
          refine lv_iinc (v := nI (k + 1)) (lv' := [(2, .int (nI (k + 1))), (1, .int (((10 * v) + (chr P pl q2.1)) - 48)), (0, .ref o)]) hx hb d_M_number_51 hl (k := 1) rfl (nI_1 k) (by decide) rfl (fun ls hl => ?_)
          have h1 := sg_bd (P := P) (n := pl) (a := 48) (b := 57) (q := q2) (by decide) hq2
          refine lv_goto (tgt := 14) hx hb d_M_number_54 (by decide) ?_
          exact ih (k + 1) _ _ (by omega) (by omega) h1.2 (by rw [hE]; simp only [nml, c2_20, e_31, ↓reduceIte]) _ _ hP hD hS _ (lv_sub hl [0, 1, 2] rfl)
set_option maxHeartbeats 4000000 in
set_option maxRecDepth 100000 in
theorem c_M_order (l : Launch) (D : va_G) (ca : Nat → ClassId) (o sa ba sl sv pd : Nat) (P : Nat → Int32) (kn pl q : Nat) (le one two three : Int32) (hpl : pl ≤ 80) (hq : q ≤ pl) : MV l y_M_order b_M_order 4 3 67 D ca [.ref o] [(o, .inr (4, [.ref sa, .ref ba, .int (nI kn), .ref sl, .ref sv, .ref pd, .int (nI pl), .int (nI q), .int (b2 false), .int le, .int one, .int two, .int three])), (pd, .inl (ca 0, 80, .inl P))] [(o, .inr (4, [.ref sa, .ref ba, .int (nI kn), .ref sl, .ref sv, .ref pd, .int (nI pl), .int (nI ((mo P pl q).1.1)), .int (b2 (mo P pl q).1.2), .int (chr P pl q), .int ((mo P pl q).2.1), .int ((mo P pl q).2.2.1), .int ((mo P pl q).2.2.2)])), (pd, .inl (ca 0, 80, .inl P))] := by
  refine MV.mk rfl (Nat.le_of_ble_eq_true rfl) ?_
  intro p e s m args below meth c Q A S hA hP hD hK
  obtain ⟨hx, hb, hml, hown, hts⟩ := id S
  intro hret ls hl0 hS
  have hl : lv_has ls 4 [(0, .ref o)] := hl0
  have main : W p l e (rm 3 67 0 0) s m args below meth c s.heap [] 0 0 Q (F0 m 24 ls [.int (chr P pl q)]) := by
    rcases chr_cases (chr P pl q) with hc | hc | hc | hc | hc | ⟨h119, h114, h99, h109, h120⟩
    · rw [hc]
      have hp1 : q + 1 ≤ pl := chr_lt hc (by decide)
      refine lv_istore_n (lv' := [(1, .int 119), (0, .ref o)]) hx hb d_M_order_24 rfl hl (by decide) rfl (fun ls hl => ?_)
      refine lv_iload_n hx hb d_M_order_25 rfl (lv_at hl 0 rfl) ?_
      refine lv_bipush (v := 119) hx hb d_M_order_26 (by decide) ?_
      refine lv_icmp_eq (tgt := 43) hx hb d_M_order_28 (by decide) (fun _ => ?_) (fun q => absurd (by decide) q)
      refine lv_iconst (v := 1) hx hb d_M_order_43 (by decide) ?_
      refine lv_goto (tgt := 48) hx hb d_M_order_44 (by decide) ?_
      refine lv_istore_n (lv' := [(2, .int 1), (1, .int 119), (0, .ref o)]) hx hb d_M_order_48 rfl hl (by decide) rfl (fun ls hl => ?_)
      refine lv_aload_n hx hb d_M_order_49 rfl (lv_at hl 2 rfl) ?_
      refine lv_aload_n hx hb d_M_order_50 rfl (lv_at hl 2 rfl) ?_
      refine f_get S cls_M hK hP 0 rfl 8 (by decide) fl_M_isWrong rfl rfl d_M_order_51 ?_
      refine lv_if_ne (tgt := 73) hx hb d_M_order_54 (by decide) (fun q => absurd (by decide) q) (fun _ => ?_)
      refine lv_iload_n hx hb d_M_order_57 rfl (lv_at hl 0 rfl) ?_
      refine lv_if_ne (tgt := 77) hx hb d_M_order_58 (by decide) (fun _ => ?_) (fun q => absurd q (by decide))
      refine lv_iconst (v := 0) hx hb d_M_order_77 (by decide) ?_
      refine f_put S cls_M hK hP hD hS 0 rfl 8 (by decide) fl_M_isWrong rfl rfl (rfl) (rfl) (Nat.le_of_ble_eq_true rfl) d_M_order_78 (fun H locs hP hD hS => ?_)
      have hP : va_P D classes [(o, .inr (4, [.ref sa, .ref ba, .int (nI kn), .ref sl, .ref sv, .ref pd, .int (nI pl), .int (nI q), .int 0, .int le, .int one, .int two, .int three])), (pd, .inl (ca 0, 80, .inl P))] H := hP
      have hD : va_D A [(o, .inr (4, [.ref sa, .ref ba, .int (nI kn), .ref sl, .ref sv, .ref pd, .int (nI pl), .int (nI q), .int 0, .int le, .int one, .int two, .int three])), (pd, .inl (ca 0, 80, .inl P))] := hD
      refine lv_aload_n hx hb d_M_order_81 rfl (lv_at hl 2 rfl) ?_
      refine lv_dup hx hb d_M_order_82 rfl ?_
      refine f_get S cls_M hK hP 0 rfl 7 (by decide) fl_M_place rfl rfl d_M_order_83 ?_
      refine lv_aload_n hx hb d_M_order_86 rfl (lv_at hl 2 rfl) ?_
      refine f_get S cls_M hK hP 0 rfl 8 (by decide) fl_M_isWrong rfl rfl d_M_order_87 ?_
      refine lv_if_eq (tgt := 97) hx hb d_M_order_90 (by decide) (fun _ => ?_) (fun q => absurd (by decide) q)
      refine lv_iconst (v := 1) hx hb d_M_order_97 (by decide) ?_
      refine lv_iadd hx hb d_M_order_98 ?_
      refine lv_tope (z := nI (q + 1)) (nI_add q 1) ?_
      refine f_put S cls_M hK hP hD hS 0 rfl 7 (by decide) fl_M_place rfl rfl (rfl) (rfl) (Nat.le_of_ble_eq_true rfl) d_M_order_99 (fun H locs hP hD hS => ?_)
      have hP : va_P D classes [(o, .inr (4, [.ref sa, .ref ba, .int (nI kn), .ref sl, .ref sv, .ref pd, .int (nI pl), .int (nI (q + 1)), .int 0, .int le, .int one, .int two, .int three])), (pd, .inl (ca 0, 80, .inl P))] H := hP
      have hD : va_D A [(o, .inr (4, [.ref sa, .ref ba, .int (nI kn), .ref sl, .ref sv, .ref pd, .int (nI pl), .int (nI (q + 1)), .int 0, .int le, .int one, .int two, .int three])), (pd, .inl (ca 0, 80, .inl P))] := hD
      refine lv_aload_n hx hb d_M_order_102 rfl (lv_at hl 2 rfl) ?_
      refine lv_iload_n hx hb d_M_order_103 rfl (lv_at hl 1 rfl) ?_
      refine f_put S cls_M hK hP hD hS 0 rfl 9 (by decide) fl_M_letter rfl rfl (rfl) (rfl) (Nat.le_of_ble_eq_true rfl) d_M_order_104 (fun H locs hP hD hS => ?_)
      have hP : va_P D classes [(o, .inr (4, [.ref sa, .ref ba, .int (nI kn), .ref sl, .ref sv, .ref pd, .int (nI pl), .int (nI (q + 1)), .int 0, .int 119, .int one, .int two, .int three])), (pd, .inl (ca 0, 80, .inl P))] H := hP
      have hD : va_D A [(o, .inr (4, [.ref sa, .ref ba, .int (nI kn), .ref sl, .ref sv, .ref pd, .int (nI pl), .int (nI (q + 1)), .int 0, .int 119, .int one, .int two, .int three])), (pd, .inl (ca 0, 80, .inl P))] := hD
      refine lv_aload_n hx hb d_M_order_107 rfl (lv_at hl 2 rfl) ?_
      refine lv_iload_n hx hb d_M_order_108 rfl (lv_at hl 0 rfl) ?_
      refine lv_if_eq (tgt := 126) hx hb d_M_order_109 (by decide) (fun q => absurd q (by decide)) (fun _ => ?_)
      refine lv_aload_n hx hb d_M_order_112 rfl (lv_at hl 2 rfl) ?_
      refine lv_bipush (v := 48) hx hb d_M_order_113 (by decide) ?_
      refine lv_bipush (v := 49) hx hb d_M_order_115 (by decide) ?_
      refine MI.callV (wr := []) S (c_M_sign l D ca  o sa ba sl sv pd P kn pl (q + 1) false 119 one two three 48 49 (by omega) (hp1)) k_M_130 hP hD hS hA hK [0, 1] [] rfl rfl (by decide) (by decide) (by decide) 0 (ci := 4) (fs := [.ref sa, .ref ba, .int (nI kn), .ref sl, .ref sv, .ref pd, .int (nI pl), .int (nI (q + 1)), .int 0, .int 119, .int one, .int two, .int three]) rfl rfl rfl rfl hl.1 ⟨Nat.le_of_ble_eq_true rfl, Nat.le_of_ble_eq_true rfl⟩ ⟨Nat.zero_le _, Nat.zero_le _⟩ (Nat.le_of_ble_eq_true rfl) d_M_order_117 (fun H locs hP hD hS => ?_)
      have hP : va_P D classes [(o, .inr (4, [.ref sa, .ref ba, .int (nI kn), .ref sl, .ref sv, .ref pd, .int (nI pl), .int (nI ((sg P pl 48 49 ((q + 1), false)).1)), .int (b2 (sg P pl 48 49 ((q + 1), false)).2), .int 119, .int one, .int two, .int three])), (pd, .inl (ca 0, 80, .inl P))] H := hP
      have hD : va_D A [(o, .inr (4, [.ref sa, .ref ba, .int (nI kn), .ref sl, .ref sv, .ref pd, .int (nI pl), .int (nI ((sg P pl 48 49 ((q + 1), false)).1)), .int (b2 (sg P pl 48 49 ((q + 1), false)).2), .int 119, .int one, .int two, .int three])), (pd, .inl (ca 0, 80, .inl P))] := hD
      have k1 := (sg_bd (P := P) (n := pl) (a := 48) (b := 49) (q := (q + 1, false)) (by decide) hp1).2
      refine lv_bipush (v := 48) hx hb d_M_order_120 (by decide) ?_
      refine lv_isub hx hb d_M_order_122 ?_
      refine lv_goto (tgt := 127) hx hb d_M_order_123 (by decide) ?_
      refine f_put S cls_M hK hP hD hS 0 rfl 10 (by decide) fl_M_one rfl rfl (rfl) (rfl) (Nat.le_of_ble_eq_true rfl) d_M_order_127 (fun H locs hP hD hS => ?_)
      have hP : va_P D classes [(o, .inr (4, [.ref sa, .ref ba, .int (nI kn), .ref sl, .ref sv, .ref pd, .int (nI pl), .int (nI ((sg P pl 48 49 ((q + 1), false)).1)), .int (b2 (sg P pl 48 49 ((q + 1), false)).2), .int 119, .int ((chr P pl (q + 1)) - 48), .int two, .int three])), (pd, .inl (ca 0, 80, .inl P))] H := hP
      have hD : va_D A [(o, .inr (4, [.ref sa, .ref ba, .int (nI kn), .ref sl, .ref sv, .ref pd, .int (nI pl), .int (nI ((sg P pl 48 49 ((q + 1), false)).1)), .int (b2 (sg P pl 48 49 ((q + 1), false)).2), .int 119, .int ((chr P pl (q + 1)) - 48), .int two, .int three])), (pd, .inl (ca 0, 80, .inl P))] := hD
      refine lv_iload_n hx hb d_M_order_130 rfl (lv_at hl 0 rfl) ?_
      refine lv_if_eq (tgt := 167) hx hb d_M_order_131 (by decide) (fun q => absurd q (by decide)) (fun _ => ?_)
      refine lv_aload_n hx hb d_M_order_134 rfl (lv_at hl 2 rfl) ?_
      refine lv_iload_n hx hb d_M_order_135 rfl (lv_at hl 1 rfl) ?_
      refine lv_bipush (v := 119) hx hb d_M_order_136 (by decide) ?_
      refine lv_icmp_ne (tgt := 146) hx hb d_M_order_138 (by decide) (fun q => absurd (by decide) q) (fun _ => ?_)
      refine lv_bipush (v := 58) hx hb d_M_order_141 (by decide) ?_
      refine lv_goto (tgt := 148) hx hb d_M_order_143 (by decide) ?_
      refine lv_iload_n hx hb d_M_order_148 rfl (lv_at hl 1 rfl) ?_
      refine lv_bipush (v := 119) hx hb d_M_order_149 (by decide) ?_
      refine lv_icmp_ne (tgt := 159) hx hb d_M_order_151 (by decide) (fun q => absurd (by decide) q) (fun _ => ?_)
      refine lv_bipush (v := 58) hx hb d_M_order_154 (by decide) ?_
      refine lv_goto (tgt := 161) hx hb d_M_order_156 (by decide) ?_
      refine MI.callV (wr := []) S (c_M_sign l D ca  o sa ba sl sv pd P kn pl ((sg P pl 48 49 ((q + 1), false)).1) ((sg P pl 48 49 ((q + 1), false)).2) 119 ((chr P pl (q + 1)) - 48) two three 58 58 (by omega) (k1)) k_M_130 hP hD hS hA hK [0, 1] [] rfl rfl (by decide) (by decide) (by decide) 0 (ci := 4) (fs := [.ref sa, .ref ba, .int (nI kn), .ref sl, .ref sv, .ref pd, .int (nI pl), .int (nI ((sg P pl 48 49 ((q + 1), false)).1)), .int (b2 (sg P pl 48 49 ((q + 1), false)).2), .int 119, .int ((chr P pl (q + 1)) - 48), .int two, .int three]) rfl rfl rfl rfl hl.1 ⟨Nat.le_of_ble_eq_true rfl, Nat.le_of_ble_eq_true rfl⟩ ⟨Nat.zero_le _, Nat.zero_le _⟩ (Nat.le_of_ble_eq_true rfl) d_M_order_161 (fun H locs hP hD hS => ?_)
      have hP : va_P D classes [(o, .inr (4, [.ref sa, .ref ba, .int (nI kn), .ref sl, .ref sv, .ref pd, .int (nI pl), .int (nI ((sg P pl 58 58 (((sg P pl 48 49 ((q + 1), false)).1), ((sg P pl 48 49 ((q + 1), false)).2))).1)), .int (b2 (sg P pl 58 58 (((sg P pl 48 49 ((q + 1), false)).1), ((sg P pl 48 49 ((q + 1), false)).2))).2), .int 119, .int ((chr P pl (q + 1)) - 48), .int two, .int three])), (pd, .inl (ca 0, 80, .inl P))] H := hP
      have hD : va_D A [(o, .inr (4, [.ref sa, .ref ba, .int (nI kn), .ref sl, .ref sv, .ref pd, .int (nI pl), .int (nI ((sg P pl 58 58 (((sg P pl 48 49 ((q + 1), false)).1), ((sg P pl 48 49 ((q + 1), false)).2))).1)), .int (b2 (sg P pl 58 58 (((sg P pl 48 49 ((q + 1), false)).1), ((sg P pl 48 49 ((q + 1), false)).2))).2), .int 119, .int ((chr P pl (q + 1)) - 48), .int two, .int three])), (pd, .inl (ca 0, 80, .inl P))] := hD
      have k2 := (sg_bd (P := P) (n := pl) (a := 58) (b := 58) (q := sg P pl 48 49 (q + 1, false)) (by decide) k1).2
      have k3 := (nm_bd (P := P) (n := pl) k2).2
      refine lv_goto (tgt := 168) hx hb d_M_order_164 (by decide) ?_
      refine lv_istore_n (lv' := [(3, .int (chr P pl ((sg P pl 48 49 ((q + 1), false)).1))), (2, .int 1), (1, .int 119), (0, .ref o)]) hx hb d_M_order_168 rfl hl (by decide) rfl (fun ls hl => ?_)
      refine lv_aload_n hx hb d_M_order_169 rfl (lv_at hl 3 rfl) ?_
      refine lv_iload_n hx hb d_M_order_170 rfl (lv_at hl 2 rfl) ?_
      refine lv_bipush (v := 120) hx hb d_M_order_171 (by decide) ?_
      refine lv_icmp_ne (tgt := 180) hx hb d_M_order_173 (by decide) (fun _ => ?_) (fun q => absurd q (by decide))
      refine lv_aload_n hx hb d_M_order_180 rfl (lv_at hl 3 rfl) ?_
      refine MI.callV (wr := []) S (c_M_number l D ca  o sa ba sl sv pd P kn pl ((sg P pl 58 58 (((sg P pl 48 49 ((q + 1), false)).1), ((sg P pl 48 49 ((q + 1), false)).2))).1) ((sg P pl 58 58 (((sg P pl 48 49 ((q + 1), false)).1), ((sg P pl 48 49 ((q + 1), false)).2))).2) 119 ((chr P pl (q + 1)) - 48) two three (by omega) (k2)) k_M_142 hP hD hS hA hK [0, 1] [] rfl rfl (by decide) (by decide) (by decide) 0 (ci := 4) (fs := [.ref sa, .ref ba, .int (nI kn), .ref sl, .ref sv, .ref pd, .int (nI pl), .int (nI ((sg P pl 58 58 (((sg P pl 48 49 ((q + 1), false)).1), ((sg P pl 48 49 ((q + 1), false)).2))).1)), .int (b2 (sg P pl 58 58 (((sg P pl 48 49 ((q + 1), false)).1), ((sg P pl 48 49 ((q + 1), false)).2))).2), .int 119, .int ((chr P pl (q + 1)) - 48), .int two, .int three]) rfl rfl rfl rfl hl.1 ⟨Nat.le_of_ble_eq_true rfl, Nat.le_of_ble_eq_true rfl⟩ ⟨Nat.zero_le _, Nat.zero_le _⟩ (Nat.le_of_ble_eq_true rfl) d_M_order_181 (fun H locs hP hD hS => ?_)
      have hP : va_P D classes [(o, .inr (4, [.ref sa, .ref ba, .int (nI kn), .ref sl, .ref sv, .ref pd, .int (nI pl), .int (nI ((nm P pl (((sg P pl 58 58 (((sg P pl 48 49 ((q + 1), false)).1), ((sg P pl 48 49 ((q + 1), false)).2))).1), ((sg P pl 58 58 (((sg P pl 48 49 ((q + 1), false)).1), ((sg P pl 48 49 ((q + 1), false)).2))).2))).2.1)), .int (b2 (nm P pl (((sg P pl 58 58 (((sg P pl 48 49 ((q + 1), false)).1), ((sg P pl 48 49 ((q + 1), false)).2))).1), ((sg P pl 58 58 (((sg P pl 48 49 ((q + 1), false)).1), ((sg P pl 48 49 ((q + 1), false)).2))).2))).2.2), .int 119, .int ((chr P pl (q + 1)) - 48), .int two, .int three])), (pd, .inl (ca 0, 80, .inl P))] H := hP
      have hD : va_D A [(o, .inr (4, [.ref sa, .ref ba, .int (nI kn), .ref sl, .ref sv, .ref pd, .int (nI pl), .int (nI ((nm P pl (((sg P pl 58 58 (((sg P pl 48 49 ((q + 1), false)).1), ((sg P pl 48 49 ((q + 1), false)).2))).1), ((sg P pl 58 58 (((sg P pl 48 49 ((q + 1), false)).1), ((sg P pl 48 49 ((q + 1), false)).2))).2))).2.1)), .int (b2 (nm P pl (((sg P pl 58 58 (((sg P pl 48 49 ((q + 1), false)).1), ((sg P pl 48 49 ((q + 1), false)).2))).1), ((sg P pl 58 58 (((sg P pl 48 49 ((q + 1), false)).1), ((sg P pl 48 49 ((q + 1), false)).2))).2))).2.2), .int 119, .int ((chr P pl (q + 1)) - 48), .int two, .int three])), (pd, .inl (ca 0, 80, .inl P))] := hD
      refine f_put S cls_M hK hP hD hS 0 rfl 11 (by decide) fl_M_two rfl rfl (rfl) (rfl) (Nat.le_of_ble_eq_true rfl) d_M_order_184 (fun H locs hP hD hS => ?_)
      have hP : va_P D classes [(o, .inr (4, [.ref sa, .ref ba, .int (nI kn), .ref sl, .ref sv, .ref pd, .int (nI pl), .int (nI ((nm P pl (((sg P pl 58 58 (((sg P pl 48 49 ((q + 1), false)).1), ((sg P pl 48 49 ((q + 1), false)).2))).1), ((sg P pl 58 58 (((sg P pl 48 49 ((q + 1), false)).1), ((sg P pl 48 49 ((q + 1), false)).2))).2))).2.1)), .int (b2 (nm P pl (((sg P pl 58 58 (((sg P pl 48 49 ((q + 1), false)).1), ((sg P pl 48 49 ((q + 1), false)).2))).1), ((sg P pl 58 58 (((sg P pl 48 49 ((q + 1), false)).1), ((sg P pl 48 49 ((q + 1), false)).2))).2))).2.2), .int 119, .int ((chr P pl (q + 1)) - 48), .int ((nm P pl (((sg P pl 58 58 (((sg P pl 48 49 ((q + 1), false)).1), ((sg P pl 48 49 ((q + 1), false)).2))).1), ((sg P pl 58 58 (((sg P pl 48 49 ((q + 1), false)).1), ((sg P pl 48 49 ((q + 1), false)).2))).2))).1), .int three])), (pd, .inl (ca 0, 80, .inl P))] H := hP
      have hD : va_D A [(o, .inr (4, [.ref sa, .ref ba, .int (nI kn), .ref sl, .ref sv, .ref pd, .int (nI pl), .int (nI ((nm P pl (((sg P pl 58 58 (((sg P pl 48 49 ((q + 1), false)).1), ((sg P pl 48 49 ((q + 1), false)).2))).1), ((sg P pl 58 58 (((sg P pl 48 49 ((q + 1), false)).1), ((sg P pl 48 49 ((q + 1), false)).2))).2))).2.1)), .int (b2 (nm P pl (((sg P pl 58 58 (((sg P pl 48 49 ((q + 1), false)).1), ((sg P pl 48 49 ((q + 1), false)).2))).1), ((sg P pl 58 58 (((sg P pl 48 49 ((q + 1), false)).1), ((sg P pl 48 49 ((q + 1), false)).2))).2))).2.2), .int 119, .int ((chr P pl (q + 1)) - 48), .int ((nm P pl (((sg P pl 58 58 (((sg P pl 48 49 ((q + 1), false)).1), ((sg P pl 48 49 ((q + 1), false)).2))).1), ((sg P pl 58 58 (((sg P pl 48 49 ((q + 1), false)).1), ((sg P pl 48 49 ((q + 1), false)).2))).2))).1), .int three])), (pd, .inl (ca 0, 80, .inl P))] := hD
      refine lv_iload_n hx hb d_M_order_187 rfl (lv_at hl 2 rfl) ?_
      refine lv_bipush (v := 119) hx hb d_M_order_188 (by decide) ?_
      refine lv_icmp_ne (tgt := 204) hx hb d_M_order_190 (by decide) (fun q => absurd (by decide) q) (fun _ => ?_)
      refine lv_aload_n hx hb d_M_order_193 rfl (lv_at hl 3 rfl) ?_
      refine lv_bipush (v := 35) hx hb d_M_order_194 (by decide) ?_
      refine lv_bipush (v := 35) hx hb d_M_order_196 (by decide) ?_
      refine MI.callV (wr := []) S (c_M_sign l D ca  o sa ba sl sv pd P kn pl ((nm P pl (((sg P pl 58 58 (((sg P pl 48 49 ((q + 1), false)).1), ((sg P pl 48 49 ((q + 1), false)).2))).1), ((sg P pl 58 58 (((sg P pl 48 49 ((q + 1), false)).1), ((sg P pl 48 49 ((q + 1), false)).2))).2))).2.1) ((nm P pl (((sg P pl 58 58 (((sg P pl 48 49 ((q + 1), false)).1), ((sg P pl 48 49 ((q + 1), false)).2))).1), ((sg P pl 58 58 (((sg P pl 48 49 ((q + 1), false)).1), ((sg P pl 48 49 ((q + 1), false)).2))).2))).2.2) 119 ((chr P pl (q + 1)) - 48) ((nm P pl (((sg P pl 58 58 (((sg P pl 48 49 ((q + 1), false)).1), ((sg P pl 48 49 ((q + 1), false)).2))).1), ((sg P pl 58 58 (((sg P pl 48 49 ((q + 1), false)).1), ((sg P pl 48 49 ((q + 1), false)).2))).2))).1) three 35 35 (by omega) (k3)) k_M_130 hP hD hS hA hK [0, 1] [] rfl rfl (by decide) (by decide) (by decide) 0 (ci := 4) (fs := [.ref sa, .ref ba, .int (nI kn), .ref sl, .ref sv, .ref pd, .int (nI pl), .int (nI ((nm P pl (((sg P pl 58 58 (((sg P pl 48 49 ((q + 1), false)).1), ((sg P pl 48 49 ((q + 1), false)).2))).1), ((sg P pl 58 58 (((sg P pl 48 49 ((q + 1), false)).1), ((sg P pl 48 49 ((q + 1), false)).2))).2))).2.1)), .int (b2 (nm P pl (((sg P pl 58 58 (((sg P pl 48 49 ((q + 1), false)).1), ((sg P pl 48 49 ((q + 1), false)).2))).1), ((sg P pl 58 58 (((sg P pl 48 49 ((q + 1), false)).1), ((sg P pl 48 49 ((q + 1), false)).2))).2))).2.2), .int 119, .int ((chr P pl (q + 1)) - 48), .int ((nm P pl (((sg P pl 58 58 (((sg P pl 48 49 ((q + 1), false)).1), ((sg P pl 48 49 ((q + 1), false)).2))).1), ((sg P pl 58 58 (((sg P pl 48 49 ((q + 1), false)).1), ((sg P pl 48 49 ((q + 1), false)).2))).2))).1), .int three]) rfl rfl rfl rfl hl.1 ⟨Nat.le_of_ble_eq_true rfl, Nat.le_of_ble_eq_true rfl⟩ ⟨Nat.zero_le _, Nat.zero_le _⟩ (Nat.le_of_ble_eq_true rfl) d_M_order_198 (fun H locs hP hD hS => ?_)
      have hP : va_P D classes [(o, .inr (4, [.ref sa, .ref ba, .int (nI kn), .ref sl, .ref sv, .ref pd, .int (nI pl), .int (nI ((sg P pl 35 35 (((nm P pl (((sg P pl 58 58 (((sg P pl 48 49 ((q + 1), false)).1), ((sg P pl 48 49 ((q + 1), false)).2))).1), ((sg P pl 58 58 (((sg P pl 48 49 ((q + 1), false)).1), ((sg P pl 48 49 ((q + 1), false)).2))).2))).2.1), ((nm P pl (((sg P pl 58 58 (((sg P pl 48 49 ((q + 1), false)).1), ((sg P pl 48 49 ((q + 1), false)).2))).1), ((sg P pl 58 58 (((sg P pl 48 49 ((q + 1), false)).1), ((sg P pl 48 49 ((q + 1), false)).2))).2))).2.2))).1)), .int (b2 (sg P pl 35 35 (((nm P pl (((sg P pl 58 58 (((sg P pl 48 49 ((q + 1), false)).1), ((sg P pl 48 49 ((q + 1), false)).2))).1), ((sg P pl 58 58 (((sg P pl 48 49 ((q + 1), false)).1), ((sg P pl 48 49 ((q + 1), false)).2))).2))).2.1), ((nm P pl (((sg P pl 58 58 (((sg P pl 48 49 ((q + 1), false)).1), ((sg P pl 48 49 ((q + 1), false)).2))).1), ((sg P pl 58 58 (((sg P pl 48 49 ((q + 1), false)).1), ((sg P pl 48 49 ((q + 1), false)).2))).2))).2.2))).2), .int 119, .int ((chr P pl (q + 1)) - 48), .int ((nm P pl (((sg P pl 58 58 (((sg P pl 48 49 ((q + 1), false)).1), ((sg P pl 48 49 ((q + 1), false)).2))).1), ((sg P pl 58 58 (((sg P pl 48 49 ((q + 1), false)).1), ((sg P pl 48 49 ((q + 1), false)).2))).2))).1), .int three])), (pd, .inl (ca 0, 80, .inl P))] H := hP
      have hD : va_D A [(o, .inr (4, [.ref sa, .ref ba, .int (nI kn), .ref sl, .ref sv, .ref pd, .int (nI pl), .int (nI ((sg P pl 35 35 (((nm P pl (((sg P pl 58 58 (((sg P pl 48 49 ((q + 1), false)).1), ((sg P pl 48 49 ((q + 1), false)).2))).1), ((sg P pl 58 58 (((sg P pl 48 49 ((q + 1), false)).1), ((sg P pl 48 49 ((q + 1), false)).2))).2))).2.1), ((nm P pl (((sg P pl 58 58 (((sg P pl 48 49 ((q + 1), false)).1), ((sg P pl 48 49 ((q + 1), false)).2))).1), ((sg P pl 58 58 (((sg P pl 48 49 ((q + 1), false)).1), ((sg P pl 48 49 ((q + 1), false)).2))).2))).2.2))).1)), .int (b2 (sg P pl 35 35 (((nm P pl (((sg P pl 58 58 (((sg P pl 48 49 ((q + 1), false)).1), ((sg P pl 48 49 ((q + 1), false)).2))).1), ((sg P pl 58 58 (((sg P pl 48 49 ((q + 1), false)).1), ((sg P pl 48 49 ((q + 1), false)).2))).2))).2.1), ((nm P pl (((sg P pl 58 58 (((sg P pl 48 49 ((q + 1), false)).1), ((sg P pl 48 49 ((q + 1), false)).2))).1), ((sg P pl 58 58 (((sg P pl 48 49 ((q + 1), false)).1), ((sg P pl 48 49 ((q + 1), false)).2))).2))).2.2))).2), .int 119, .int ((chr P pl (q + 1)) - 48), .int ((nm P pl (((sg P pl 58 58 (((sg P pl 48 49 ((q + 1), false)).1), ((sg P pl 48 49 ((q + 1), false)).2))).1), ((sg P pl 58 58 (((sg P pl 48 49 ((q + 1), false)).1), ((sg P pl 48 49 ((q + 1), false)).2))).2))).1), .int three])), (pd, .inl (ca 0, 80, .inl P))] := hD
      have k4 := (sg_bd (P := P) (n := pl) (a := 35) (b := 35) (q := (nm P pl (sg P pl 58 58 (sg P pl 48 49 (q + 1, false)))).2) (by decide) k3).2
      refine lv_goto (tgt := 205) hx hb d_M_order_201 (by decide) ?_
      refine lv_istore_n (lv' := [(3, .int (chr P pl ((nm P pl (((sg P pl 58 58 (((sg P pl 48 49 ((q + 1), false)).1), ((sg P pl 48 49 ((q + 1), false)).2))).1), ((sg P pl 58 58 (((sg P pl 48 49 ((q + 1), false)).1), ((sg P pl 48 49 ((q + 1), false)).2))).2))).2.1))), (2, .int 1), (1, .int 119), (0, .ref o)]) hx hb d_M_order_205 rfl hl (by decide) rfl (fun ls hl => ?_)
      refine lv_aload_n hx hb d_M_order_206 rfl (lv_at hl 3 rfl) ?_
      refine lv_iload_n hx hb d_M_order_207 rfl (lv_at hl 2 rfl) ?_
      refine lv_bipush (v := 119) hx hb d_M_order_208 (by decide) ?_
      refine lv_icmp_ne (tgt := 220) hx hb d_M_order_210 (by decide) (fun q => absurd (by decide) q) (fun _ => ?_)
      refine lv_aload_n hx hb d_M_order_213 rfl (lv_at hl 3 rfl) ?_
      refine MI.callV (wr := []) S (c_M_number l D ca  o sa ba sl sv pd P kn pl ((sg P pl 35 35 (((nm P pl (((sg P pl 58 58 (((sg P pl 48 49 ((q + 1), false)).1), ((sg P pl 48 49 ((q + 1), false)).2))).1), ((sg P pl 58 58 (((sg P pl 48 49 ((q + 1), false)).1), ((sg P pl 48 49 ((q + 1), false)).2))).2))).2.1), ((nm P pl (((sg P pl 58 58 (((sg P pl 48 49 ((q + 1), false)).1), ((sg P pl 48 49 ((q + 1), false)).2))).1), ((sg P pl 58 58 (((sg P pl 48 49 ((q + 1), false)).1), ((sg P pl 48 49 ((q + 1), false)).2))).2))).2.2))).1) ((sg P pl 35 35 (((nm P pl (((sg P pl 58 58 (((sg P pl 48 49 ((q + 1), false)).1), ((sg P pl 48 49 ((q + 1), false)).2))).1), ((sg P pl 58 58 (((sg P pl 48 49 ((q + 1), false)).1), ((sg P pl 48 49 ((q + 1), false)).2))).2))).2.1), ((nm P pl (((sg P pl 58 58 (((sg P pl 48 49 ((q + 1), false)).1), ((sg P pl 48 49 ((q + 1), false)).2))).1), ((sg P pl 58 58 (((sg P pl 48 49 ((q + 1), false)).1), ((sg P pl 48 49 ((q + 1), false)).2))).2))).2.2))).2) 119 ((chr P pl (q + 1)) - 48) ((nm P pl (((sg P pl 58 58 (((sg P pl 48 49 ((q + 1), false)).1), ((sg P pl 48 49 ((q + 1), false)).2))).1), ((sg P pl 58 58 (((sg P pl 48 49 ((q + 1), false)).1), ((sg P pl 48 49 ((q + 1), false)).2))).2))).1) three (by omega) (k4)) k_M_142 hP hD hS hA hK [0, 1] [] rfl rfl (by decide) (by decide) (by decide) 0 (ci := 4) (fs := [.ref sa, .ref ba, .int (nI kn), .ref sl, .ref sv, .ref pd, .int (nI pl), .int (nI ((sg P pl 35 35 (((nm P pl (((sg P pl 58 58 (((sg P pl 48 49 ((q + 1), false)).1), ((sg P pl 48 49 ((q + 1), false)).2))).1), ((sg P pl 58 58 (((sg P pl 48 49 ((q + 1), false)).1), ((sg P pl 48 49 ((q + 1), false)).2))).2))).2.1), ((nm P pl (((sg P pl 58 58 (((sg P pl 48 49 ((q + 1), false)).1), ((sg P pl 48 49 ((q + 1), false)).2))).1), ((sg P pl 58 58 (((sg P pl 48 49 ((q + 1), false)).1), ((sg P pl 48 49 ((q + 1), false)).2))).2))).2.2))).1)), .int (b2 (sg P pl 35 35 (((nm P pl (((sg P pl 58 58 (((sg P pl 48 49 ((q + 1), false)).1), ((sg P pl 48 49 ((q + 1), false)).2))).1), ((sg P pl 58 58 (((sg P pl 48 49 ((q + 1), false)).1), ((sg P pl 48 49 ((q + 1), false)).2))).2))).2.1), ((nm P pl (((sg P pl 58 58 (((sg P pl 48 49 ((q + 1), false)).1), ((sg P pl 48 49 ((q + 1), false)).2))).1), ((sg P pl 58 58 (((sg P pl 48 49 ((q + 1), false)).1), ((sg P pl 48 49 ((q + 1), false)).2))).2))).2.2))).2), .int 119, .int ((chr P pl (q + 1)) - 48), .int ((nm P pl (((sg P pl 58 58 (((sg P pl 48 49 ((q + 1), false)).1), ((sg P pl 48 49 ((q + 1), false)).2))).1), ((sg P pl 58 58 (((sg P pl 48 49 ((q + 1), false)).1), ((sg P pl 48 49 ((q + 1), false)).2))).2))).1), .int three]) rfl rfl rfl rfl hl.1 ⟨Nat.le_of_ble_eq_true rfl, Nat.le_of_ble_eq_true rfl⟩ ⟨Nat.zero_le _, Nat.zero_le _⟩ (Nat.le_of_ble_eq_true rfl) d_M_order_214 (fun H locs hP hD hS => ?_)
      have hP : va_P D classes [(o, .inr (4, [.ref sa, .ref ba, .int (nI kn), .ref sl, .ref sv, .ref pd, .int (nI pl), .int (nI ((nm P pl (((sg P pl 35 35 (((nm P pl (((sg P pl 58 58 (((sg P pl 48 49 ((q + 1), false)).1), ((sg P pl 48 49 ((q + 1), false)).2))).1), ((sg P pl 58 58 (((sg P pl 48 49 ((q + 1), false)).1), ((sg P pl 48 49 ((q + 1), false)).2))).2))).2.1), ((nm P pl (((sg P pl 58 58 (((sg P pl 48 49 ((q + 1), false)).1), ((sg P pl 48 49 ((q + 1), false)).2))).1), ((sg P pl 58 58 (((sg P pl 48 49 ((q + 1), false)).1), ((sg P pl 48 49 ((q + 1), false)).2))).2))).2.2))).1), ((sg P pl 35 35 (((nm P pl (((sg P pl 58 58 (((sg P pl 48 49 ((q + 1), false)).1), ((sg P pl 48 49 ((q + 1), false)).2))).1), ((sg P pl 58 58 (((sg P pl 48 49 ((q + 1), false)).1), ((sg P pl 48 49 ((q + 1), false)).2))).2))).2.1), ((nm P pl (((sg P pl 58 58 (((sg P pl 48 49 ((q + 1), false)).1), ((sg P pl 48 49 ((q + 1), false)).2))).1), ((sg P pl 58 58 (((sg P pl 48 49 ((q + 1), false)).1), ((sg P pl 48 49 ((q + 1), false)).2))).2))).2.2))).2))).2.1)), .int (b2 (nm P pl (((sg P pl 35 35 (((nm P pl (((sg P pl 58 58 (((sg P pl 48 49 ((q + 1), false)).1), ((sg P pl 48 49 ((q + 1), false)).2))).1), ((sg P pl 58 58 (((sg P pl 48 49 ((q + 1), false)).1), ((sg P pl 48 49 ((q + 1), false)).2))).2))).2.1), ((nm P pl (((sg P pl 58 58 (((sg P pl 48 49 ((q + 1), false)).1), ((sg P pl 48 49 ((q + 1), false)).2))).1), ((sg P pl 58 58 (((sg P pl 48 49 ((q + 1), false)).1), ((sg P pl 48 49 ((q + 1), false)).2))).2))).2.2))).1), ((sg P pl 35 35 (((nm P pl (((sg P pl 58 58 (((sg P pl 48 49 ((q + 1), false)).1), ((sg P pl 48 49 ((q + 1), false)).2))).1), ((sg P pl 58 58 (((sg P pl 48 49 ((q + 1), false)).1), ((sg P pl 48 49 ((q + 1), false)).2))).2))).2.1), ((nm P pl (((sg P pl 58 58 (((sg P pl 48 49 ((q + 1), false)).1), ((sg P pl 48 49 ((q + 1), false)).2))).1), ((sg P pl 58 58 (((sg P pl 48 49 ((q + 1), false)).1), ((sg P pl 48 49 ((q + 1), false)).2))).2))).2.2))).2))).2.2), .int 119, .int ((chr P pl (q + 1)) - 48), .int ((nm P pl (((sg P pl 58 58 (((sg P pl 48 49 ((q + 1), false)).1), ((sg P pl 48 49 ((q + 1), false)).2))).1), ((sg P pl 58 58 (((sg P pl 48 49 ((q + 1), false)).1), ((sg P pl 48 49 ((q + 1), false)).2))).2))).1), .int three])), (pd, .inl (ca 0, 80, .inl P))] H := hP
      have hD : va_D A [(o, .inr (4, [.ref sa, .ref ba, .int (nI kn), .ref sl, .ref sv, .ref pd, .int (nI pl), .int (nI ((nm P pl (((sg P pl 35 35 (((nm P pl (((sg P pl 58 58 (((sg P pl 48 49 ((q + 1), false)).1), ((sg P pl 48 49 ((q + 1), false)).2))).1), ((sg P pl 58 58 (((sg P pl 48 49 ((q + 1), false)).1), ((sg P pl 48 49 ((q + 1), false)).2))).2))).2.1), ((nm P pl (((sg P pl 58 58 (((sg P pl 48 49 ((q + 1), false)).1), ((sg P pl 48 49 ((q + 1), false)).2))).1), ((sg P pl 58 58 (((sg P pl 48 49 ((q + 1), false)).1), ((sg P pl 48 49 ((q + 1), false)).2))).2))).2.2))).1), ((sg P pl 35 35 (((nm P pl (((sg P pl 58 58 (((sg P pl 48 49 ((q + 1), false)).1), ((sg P pl 48 49 ((q + 1), false)).2))).1), ((sg P pl 58 58 (((sg P pl 48 49 ((q + 1), false)).1), ((sg P pl 48 49 ((q + 1), false)).2))).2))).2.1), ((nm P pl (((sg P pl 58 58 (((sg P pl 48 49 ((q + 1), false)).1), ((sg P pl 48 49 ((q + 1), false)).2))).1), ((sg P pl 58 58 (((sg P pl 48 49 ((q + 1), false)).1), ((sg P pl 48 49 ((q + 1), false)).2))).2))).2.2))).2))).2.1)), .int (b2 (nm P pl (((sg P pl 35 35 (((nm P pl (((sg P pl 58 58 (((sg P pl 48 49 ((q + 1), false)).1), ((sg P pl 48 49 ((q + 1), false)).2))).1), ((sg P pl 58 58 (((sg P pl 48 49 ((q + 1), false)).1), ((sg P pl 48 49 ((q + 1), false)).2))).2))).2.1), ((nm P pl (((sg P pl 58 58 (((sg P pl 48 49 ((q + 1), false)).1), ((sg P pl 48 49 ((q + 1), false)).2))).1), ((sg P pl 58 58 (((sg P pl 48 49 ((q + 1), false)).1), ((sg P pl 48 49 ((q + 1), false)).2))).2))).2.2))).1), ((sg P pl 35 35 (((nm P pl (((sg P pl 58 58 (((sg P pl 48 49 ((q + 1), false)).1), ((sg P pl 48 49 ((q + 1), false)).2))).1), ((sg P pl 58 58 (((sg P pl 48 49 ((q + 1), false)).1), ((sg P pl 48 49 ((q + 1), false)).2))).2))).2.1), ((nm P pl (((sg P pl 58 58 (((sg P pl 48 49 ((q + 1), false)).1), ((sg P pl 48 49 ((q + 1), false)).2))).1), ((sg P pl 58 58 (((sg P pl 48 49 ((q + 1), false)).1), ((sg P pl 48 49 ((q + 1), false)).2))).2))).2.2))).2))).2.2), .int 119, .int ((chr P pl (q + 1)) - 48), .int ((nm P pl (((sg P pl 58 58 (((sg P pl 48 49 ((q + 1), false)).1), ((sg P pl 48 49 ((q + 1), false)).2))).1), ((sg P pl 58 58 (((sg P pl 48 49 ((q + 1), false)).1), ((sg P pl 48 49 ((q + 1), false)).2))).2))).1), .int three])), (pd, .inl (ca 0, 80, .inl P))] := hD
      refine lv_goto (tgt := 221) hx hb d_M_order_217 (by decide) ?_
      refine f_put S cls_M hK hP hD hS 0 rfl 12 (by decide) fl_M_three rfl rfl (rfl) (rfl) (Nat.le_of_ble_eq_true rfl) d_M_order_221 (fun H locs hP hD hS => ?_)
      have hP : va_P D classes [(o, .inr (4, [.ref sa, .ref ba, .int (nI kn), .ref sl, .ref sv, .ref pd, .int (nI pl), .int (nI ((nm P pl (((sg P pl 35 35 (((nm P pl (((sg P pl 58 58 (((sg P pl 48 49 ((q + 1), false)).1), ((sg P pl 48 49 ((q + 1), false)).2))).1), ((sg P pl 58 58 (((sg P pl 48 49 ((q + 1), false)).1), ((sg P pl 48 49 ((q + 1), false)).2))).2))).2.1), ((nm P pl (((sg P pl 58 58 (((sg P pl 48 49 ((q + 1), false)).1), ((sg P pl 48 49 ((q + 1), false)).2))).1), ((sg P pl 58 58 (((sg P pl 48 49 ((q + 1), false)).1), ((sg P pl 48 49 ((q + 1), false)).2))).2))).2.2))).1), ((sg P pl 35 35 (((nm P pl (((sg P pl 58 58 (((sg P pl 48 49 ((q + 1), false)).1), ((sg P pl 48 49 ((q + 1), false)).2))).1), ((sg P pl 58 58 (((sg P pl 48 49 ((q + 1), false)).1), ((sg P pl 48 49 ((q + 1), false)).2))).2))).2.1), ((nm P pl (((sg P pl 58 58 (((sg P pl 48 49 ((q + 1), false)).1), ((sg P pl 48 49 ((q + 1), false)).2))).1), ((sg P pl 58 58 (((sg P pl 48 49 ((q + 1), false)).1), ((sg P pl 48 49 ((q + 1), false)).2))).2))).2.2))).2))).2.1)), .int (b2 (nm P pl (((sg P pl 35 35 (((nm P pl (((sg P pl 58 58 (((sg P pl 48 49 ((q + 1), false)).1), ((sg P pl 48 49 ((q + 1), false)).2))).1), ((sg P pl 58 58 (((sg P pl 48 49 ((q + 1), false)).1), ((sg P pl 48 49 ((q + 1), false)).2))).2))).2.1), ((nm P pl (((sg P pl 58 58 (((sg P pl 48 49 ((q + 1), false)).1), ((sg P pl 48 49 ((q + 1), false)).2))).1), ((sg P pl 58 58 (((sg P pl 48 49 ((q + 1), false)).1), ((sg P pl 48 49 ((q + 1), false)).2))).2))).2.2))).1), ((sg P pl 35 35 (((nm P pl (((sg P pl 58 58 (((sg P pl 48 49 ((q + 1), false)).1), ((sg P pl 48 49 ((q + 1), false)).2))).1), ((sg P pl 58 58 (((sg P pl 48 49 ((q + 1), false)).1), ((sg P pl 48 49 ((q + 1), false)).2))).2))).2.1), ((nm P pl (((sg P pl 58 58 (((sg P pl 48 49 ((q + 1), false)).1), ((sg P pl 48 49 ((q + 1), false)).2))).1), ((sg P pl 58 58 (((sg P pl 48 49 ((q + 1), false)).1), ((sg P pl 48 49 ((q + 1), false)).2))).2))).2.2))).2))).2.2), .int 119, .int ((chr P pl (q + 1)) - 48), .int ((nm P pl (((sg P pl 58 58 (((sg P pl 48 49 ((q + 1), false)).1), ((sg P pl 48 49 ((q + 1), false)).2))).1), ((sg P pl 58 58 (((sg P pl 48 49 ((q + 1), false)).1), ((sg P pl 48 49 ((q + 1), false)).2))).2))).1), .int ((nm P pl (((sg P pl 35 35 (((nm P pl (((sg P pl 58 58 (((sg P pl 48 49 ((q + 1), false)).1), ((sg P pl 48 49 ((q + 1), false)).2))).1), ((sg P pl 58 58 (((sg P pl 48 49 ((q + 1), false)).1), ((sg P pl 48 49 ((q + 1), false)).2))).2))).2.1), ((nm P pl (((sg P pl 58 58 (((sg P pl 48 49 ((q + 1), false)).1), ((sg P pl 48 49 ((q + 1), false)).2))).1), ((sg P pl 58 58 (((sg P pl 48 49 ((q + 1), false)).1), ((sg P pl 48 49 ((q + 1), false)).2))).2))).2.2))).1), ((sg P pl 35 35 (((nm P pl (((sg P pl 58 58 (((sg P pl 48 49 ((q + 1), false)).1), ((sg P pl 48 49 ((q + 1), false)).2))).1), ((sg P pl 58 58 (((sg P pl 48 49 ((q + 1), false)).1), ((sg P pl 48 49 ((q + 1), false)).2))).2))).2.1), ((nm P pl (((sg P pl 58 58 (((sg P pl 48 49 ((q + 1), false)).1), ((sg P pl 48 49 ((q + 1), false)).2))).1), ((sg P pl 58 58 (((sg P pl 48 49 ((q + 1), false)).1), ((sg P pl 48 49 ((q + 1), false)).2))).2))).2.2))).2))).1)])), (pd, .inl (ca 0, 80, .inl P))] H := hP
      have hD : va_D A [(o, .inr (4, [.ref sa, .ref ba, .int (nI kn), .ref sl, .ref sv, .ref pd, .int (nI pl), .int (nI ((nm P pl (((sg P pl 35 35 (((nm P pl (((sg P pl 58 58 (((sg P pl 48 49 ((q + 1), false)).1), ((sg P pl 48 49 ((q + 1), false)).2))).1), ((sg P pl 58 58 (((sg P pl 48 49 ((q + 1), false)).1), ((sg P pl 48 49 ((q + 1), false)).2))).2))).2.1), ((nm P pl (((sg P pl 58 58 (((sg P pl 48 49 ((q + 1), false)).1), ((sg P pl 48 49 ((q + 1), false)).2))).1), ((sg P pl 58 58 (((sg P pl 48 49 ((q + 1), false)).1), ((sg P pl 48 49 ((q + 1), false)).2))).2))).2.2))).1), ((sg P pl 35 35 (((nm P pl (((sg P pl 58 58 (((sg P pl 48 49 ((q + 1), false)).1), ((sg P pl 48 49 ((q + 1), false)).2))).1), ((sg P pl 58 58 (((sg P pl 48 49 ((q + 1), false)).1), ((sg P pl 48 49 ((q + 1), false)).2))).2))).2.1), ((nm P pl (((sg P pl 58 58 (((sg P pl 48 49 ((q + 1), false)).1), ((sg P pl 48 49 ((q + 1), false)).2))).1), ((sg P pl 58 58 (((sg P pl 48 49 ((q + 1), false)).1), ((sg P pl 48 49 ((q + 1), false)).2))).2))).2.2))).2))).2.1)), .int (b2 (nm P pl (((sg P pl 35 35 (((nm P pl (((sg P pl 58 58 (((sg P pl 48 49 ((q + 1), false)).1), ((sg P pl 48 49 ((q + 1), false)).2))).1), ((sg P pl 58 58 (((sg P pl 48 49 ((q + 1), false)).1), ((sg P pl 48 49 ((q + 1), false)).2))).2))).2.1), ((nm P pl (((sg P pl 58 58 (((sg P pl 48 49 ((q + 1), false)).1), ((sg P pl 48 49 ((q + 1), false)).2))).1), ((sg P pl 58 58 (((sg P pl 48 49 ((q + 1), false)).1), ((sg P pl 48 49 ((q + 1), false)).2))).2))).2.2))).1), ((sg P pl 35 35 (((nm P pl (((sg P pl 58 58 (((sg P pl 48 49 ((q + 1), false)).1), ((sg P pl 48 49 ((q + 1), false)).2))).1), ((sg P pl 58 58 (((sg P pl 48 49 ((q + 1), false)).1), ((sg P pl 48 49 ((q + 1), false)).2))).2))).2.1), ((nm P pl (((sg P pl 58 58 (((sg P pl 48 49 ((q + 1), false)).1), ((sg P pl 48 49 ((q + 1), false)).2))).1), ((sg P pl 58 58 (((sg P pl 48 49 ((q + 1), false)).1), ((sg P pl 48 49 ((q + 1), false)).2))).2))).2.2))).2))).2.2), .int 119, .int ((chr P pl (q + 1)) - 48), .int ((nm P pl (((sg P pl 58 58 (((sg P pl 48 49 ((q + 1), false)).1), ((sg P pl 48 49 ((q + 1), false)).2))).1), ((sg P pl 58 58 (((sg P pl 48 49 ((q + 1), false)).1), ((sg P pl 48 49 ((q + 1), false)).2))).2))).1), .int ((nm P pl (((sg P pl 35 35 (((nm P pl (((sg P pl 58 58 (((sg P pl 48 49 ((q + 1), false)).1), ((sg P pl 48 49 ((q + 1), false)).2))).1), ((sg P pl 58 58 (((sg P pl 48 49 ((q + 1), false)).1), ((sg P pl 48 49 ((q + 1), false)).2))).2))).2.1), ((nm P pl (((sg P pl 58 58 (((sg P pl 48 49 ((q + 1), false)).1), ((sg P pl 48 49 ((q + 1), false)).2))).1), ((sg P pl 58 58 (((sg P pl 48 49 ((q + 1), false)).1), ((sg P pl 48 49 ((q + 1), false)).2))).2))).2.2))).1), ((sg P pl 35 35 (((nm P pl (((sg P pl 58 58 (((sg P pl 48 49 ((q + 1), false)).1), ((sg P pl 48 49 ((q + 1), false)).2))).1), ((sg P pl 58 58 (((sg P pl 48 49 ((q + 1), false)).1), ((sg P pl 48 49 ((q + 1), false)).2))).2))).2.1), ((nm P pl (((sg P pl 58 58 (((sg P pl 48 49 ((q + 1), false)).1), ((sg P pl 48 49 ((q + 1), false)).2))).1), ((sg P pl 58 58 (((sg P pl 48 49 ((q + 1), false)).1), ((sg P pl 48 49 ((q + 1), false)).2))).2))).2.2))).2))).1)])), (pd, .inl (ca 0, 80, .inl P))] := hD
      refine lv_iload_n hx hb d_M_order_224 rfl (lv_at hl 2 rfl) ?_
      refine lv_bipush (v := 114) hx hb d_M_order_225 (by decide) ?_
      refine lv_icmp_ne (tgt := 255) hx hb d_M_order_227 (by decide) (fun _ => ?_) (fun q => absurd q (by decide))
      exact hret _ _ _ _ _ d_M_order_255 (by first | (simp only [mo, mo_w, mo_r, mo_c, mo_m, Bool.false_eq_true, hc, ↓reduceIte]; done) | (simp only [mo, mo_w, mo_r, mo_c, mo_m, Bool.false_eq_true, hc, ↓reduceIte]; rfl) | rfl) hP hD hS
    · rw [hc]
      have hp1 : q + 1 ≤ pl := chr_lt hc (by decide)
      refine lv_istore_n (lv' := [(1, .int 114), (0, .ref o)]) hx hb d_M_order_24 rfl hl (by decide) rfl (fun ls hl => ?_)
      refine lv_iload_n hx hb d_M_order_25 rfl (lv_at hl 0 rfl) ?_
      refine lv_bipush (v := 119) hx hb d_M_order_26 (by decide) ?_
      refine lv_icmp_eq (tgt := 43) hx hb d_M_order_28 (by decide) (fun q => absurd q (by decide)) (fun _ => ?_)
      refine lv_iload_n hx hb d_M_order_31 rfl (lv_at hl 0 rfl) ?_
      refine lv_bipush (v := 114) hx hb d_M_order_32 (by decide) ?_
      refine lv_icmp_eq (tgt := 43) hx hb d_M_order_34 (by decide) (fun _ => ?_) (fun q => absurd (by decide) q)
      refine lv_iconst (v := 1) hx hb d_M_order_43 (by decide) ?_
      refine lv_goto (tgt := 48) hx hb d_M_order_44 (by decide) ?_
      refine lv_istore_n (lv' := [(2, .int 1), (1, .int 114), (0, .ref o)]) hx hb d_M_order_48 rfl hl (by decide) rfl (fun ls hl => ?_)
      refine lv_aload_n hx hb d_M_order_49 rfl (lv_at hl 2 rfl) ?_
      refine lv_aload_n hx hb d_M_order_50 rfl (lv_at hl 2 rfl) ?_
      refine f_get S cls_M hK hP 0 rfl 8 (by decide) fl_M_isWrong rfl rfl d_M_order_51 ?_
      refine lv_if_ne (tgt := 73) hx hb d_M_order_54 (by decide) (fun q => absurd (by decide) q) (fun _ => ?_)
      refine lv_iload_n hx hb d_M_order_57 rfl (lv_at hl 0 rfl) ?_
      refine lv_if_ne (tgt := 77) hx hb d_M_order_58 (by decide) (fun _ => ?_) (fun q => absurd q (by decide))
      refine lv_iconst (v := 0) hx hb d_M_order_77 (by decide) ?_
      refine f_put S cls_M hK hP hD hS 0 rfl 8 (by decide) fl_M_isWrong rfl rfl (rfl) (rfl) (Nat.le_of_ble_eq_true rfl) d_M_order_78 (fun H locs hP hD hS => ?_)
      have hP : va_P D classes [(o, .inr (4, [.ref sa, .ref ba, .int (nI kn), .ref sl, .ref sv, .ref pd, .int (nI pl), .int (nI q), .int 0, .int le, .int one, .int two, .int three])), (pd, .inl (ca 0, 80, .inl P))] H := hP
      have hD : va_D A [(o, .inr (4, [.ref sa, .ref ba, .int (nI kn), .ref sl, .ref sv, .ref pd, .int (nI pl), .int (nI q), .int 0, .int le, .int one, .int two, .int three])), (pd, .inl (ca 0, 80, .inl P))] := hD
      refine lv_aload_n hx hb d_M_order_81 rfl (lv_at hl 2 rfl) ?_
      refine lv_dup hx hb d_M_order_82 rfl ?_
      refine f_get S cls_M hK hP 0 rfl 7 (by decide) fl_M_place rfl rfl d_M_order_83 ?_
      refine lv_aload_n hx hb d_M_order_86 rfl (lv_at hl 2 rfl) ?_
      refine f_get S cls_M hK hP 0 rfl 8 (by decide) fl_M_isWrong rfl rfl d_M_order_87 ?_
      refine lv_if_eq (tgt := 97) hx hb d_M_order_90 (by decide) (fun _ => ?_) (fun q => absurd (by decide) q)
      refine lv_iconst (v := 1) hx hb d_M_order_97 (by decide) ?_
      refine lv_iadd hx hb d_M_order_98 ?_
      refine lv_tope (z := nI (q + 1)) (nI_add q 1) ?_
      refine f_put S cls_M hK hP hD hS 0 rfl 7 (by decide) fl_M_place rfl rfl (rfl) (rfl) (Nat.le_of_ble_eq_true rfl) d_M_order_99 (fun H locs hP hD hS => ?_)
      have hP : va_P D classes [(o, .inr (4, [.ref sa, .ref ba, .int (nI kn), .ref sl, .ref sv, .ref pd, .int (nI pl), .int (nI (q + 1)), .int 0, .int le, .int one, .int two, .int three])), (pd, .inl (ca 0, 80, .inl P))] H := hP
      have hD : va_D A [(o, .inr (4, [.ref sa, .ref ba, .int (nI kn), .ref sl, .ref sv, .ref pd, .int (nI pl), .int (nI (q + 1)), .int 0, .int le, .int one, .int two, .int three])), (pd, .inl (ca 0, 80, .inl P))] := hD
      refine lv_aload_n hx hb d_M_order_102 rfl (lv_at hl 2 rfl) ?_
      refine lv_iload_n hx hb d_M_order_103 rfl (lv_at hl 1 rfl) ?_
      refine f_put S cls_M hK hP hD hS 0 rfl 9 (by decide) fl_M_letter rfl rfl (rfl) (rfl) (Nat.le_of_ble_eq_true rfl) d_M_order_104 (fun H locs hP hD hS => ?_)
      have hP : va_P D classes [(o, .inr (4, [.ref sa, .ref ba, .int (nI kn), .ref sl, .ref sv, .ref pd, .int (nI pl), .int (nI (q + 1)), .int 0, .int 114, .int one, .int two, .int three])), (pd, .inl (ca 0, 80, .inl P))] H := hP
      have hD : va_D A [(o, .inr (4, [.ref sa, .ref ba, .int (nI kn), .ref sl, .ref sv, .ref pd, .int (nI pl), .int (nI (q + 1)), .int 0, .int 114, .int one, .int two, .int three])), (pd, .inl (ca 0, 80, .inl P))] := hD
      refine lv_aload_n hx hb d_M_order_107 rfl (lv_at hl 2 rfl) ?_
      refine lv_iload_n hx hb d_M_order_108 rfl (lv_at hl 0 rfl) ?_
      refine lv_if_eq (tgt := 126) hx hb d_M_order_109 (by decide) (fun q => absurd q (by decide)) (fun _ => ?_)
      refine lv_aload_n hx hb d_M_order_112 rfl (lv_at hl 2 rfl) ?_
      refine lv_bipush (v := 48) hx hb d_M_order_113 (by decide) ?_
      refine lv_bipush (v := 49) hx hb d_M_order_115 (by decide) ?_
      refine MI.callV (wr := []) S (c_M_sign l D ca  o sa ba sl sv pd P kn pl (q + 1) false 114 one two three 48 49 (by omega) (hp1)) k_M_130 hP hD hS hA hK [0, 1] [] rfl rfl (by decide) (by decide) (by decide) 0 (ci := 4) (fs := [.ref sa, .ref ba, .int (nI kn), .ref sl, .ref sv, .ref pd, .int (nI pl), .int (nI (q + 1)), .int 0, .int 114, .int one, .int two, .int three]) rfl rfl rfl rfl hl.1 ⟨Nat.le_of_ble_eq_true rfl, Nat.le_of_ble_eq_true rfl⟩ ⟨Nat.zero_le _, Nat.zero_le _⟩ (Nat.le_of_ble_eq_true rfl) d_M_order_117 (fun H locs hP hD hS => ?_)
      have hP : va_P D classes [(o, .inr (4, [.ref sa, .ref ba, .int (nI kn), .ref sl, .ref sv, .ref pd, .int (nI pl), .int (nI ((sg P pl 48 49 ((q + 1), false)).1)), .int (b2 (sg P pl 48 49 ((q + 1), false)).2), .int 114, .int one, .int two, .int three])), (pd, .inl (ca 0, 80, .inl P))] H := hP
      have hD : va_D A [(o, .inr (4, [.ref sa, .ref ba, .int (nI kn), .ref sl, .ref sv, .ref pd, .int (nI pl), .int (nI ((sg P pl 48 49 ((q + 1), false)).1)), .int (b2 (sg P pl 48 49 ((q + 1), false)).2), .int 114, .int one, .int two, .int three])), (pd, .inl (ca 0, 80, .inl P))] := hD
      have k1 := (sg_bd (P := P) (n := pl) (a := 48) (b := 49) (q := (q + 1, false)) (by decide) hp1).2
      refine lv_bipush (v := 48) hx hb d_M_order_120 (by decide) ?_
      refine lv_isub hx hb d_M_order_122 ?_
      refine lv_goto (tgt := 127) hx hb d_M_order_123 (by decide) ?_
      refine f_put S cls_M hK hP hD hS 0 rfl 10 (by decide) fl_M_one rfl rfl (rfl) (rfl) (Nat.le_of_ble_eq_true rfl) d_M_order_127 (fun H locs hP hD hS => ?_)
      have hP : va_P D classes [(o, .inr (4, [.ref sa, .ref ba, .int (nI kn), .ref sl, .ref sv, .ref pd, .int (nI pl), .int (nI ((sg P pl 48 49 ((q + 1), false)).1)), .int (b2 (sg P pl 48 49 ((q + 1), false)).2), .int 114, .int ((chr P pl (q + 1)) - 48), .int two, .int three])), (pd, .inl (ca 0, 80, .inl P))] H := hP
      have hD : va_D A [(o, .inr (4, [.ref sa, .ref ba, .int (nI kn), .ref sl, .ref sv, .ref pd, .int (nI pl), .int (nI ((sg P pl 48 49 ((q + 1), false)).1)), .int (b2 (sg P pl 48 49 ((q + 1), false)).2), .int 114, .int ((chr P pl (q + 1)) - 48), .int two, .int three])), (pd, .inl (ca 0, 80, .inl P))] := hD
      refine lv_iload_n hx hb d_M_order_130 rfl (lv_at hl 0 rfl) ?_
      refine lv_if_eq (tgt := 167) hx hb d_M_order_131 (by decide) (fun q => absurd q (by decide)) (fun _ => ?_)
      refine lv_aload_n hx hb d_M_order_134 rfl (lv_at hl 2 rfl) ?_
      refine lv_iload_n hx hb d_M_order_135 rfl (lv_at hl 1 rfl) ?_
      refine lv_bipush (v := 119) hx hb d_M_order_136 (by decide) ?_
      refine lv_icmp_ne (tgt := 146) hx hb d_M_order_138 (by decide) (fun _ => ?_) (fun q => absurd q (by decide))
      refine lv_bipush (v := 46) hx hb d_M_order_146 (by decide) ?_
      refine lv_iload_n hx hb d_M_order_148 rfl (lv_at hl 1 rfl) ?_
      refine lv_bipush (v := 119) hx hb d_M_order_149 (by decide) ?_
      refine lv_icmp_ne (tgt := 159) hx hb d_M_order_151 (by decide) (fun _ => ?_) (fun q => absurd q (by decide))
      refine lv_bipush (v := 46) hx hb d_M_order_159 (by decide) ?_
      refine MI.callV (wr := []) S (c_M_sign l D ca  o sa ba sl sv pd P kn pl ((sg P pl 48 49 ((q + 1), false)).1) ((sg P pl 48 49 ((q + 1), false)).2) 114 ((chr P pl (q + 1)) - 48) two three 46 46 (by omega) (k1)) k_M_130 hP hD hS hA hK [0, 1] [] rfl rfl (by decide) (by decide) (by decide) 0 (ci := 4) (fs := [.ref sa, .ref ba, .int (nI kn), .ref sl, .ref sv, .ref pd, .int (nI pl), .int (nI ((sg P pl 48 49 ((q + 1), false)).1)), .int (b2 (sg P pl 48 49 ((q + 1), false)).2), .int 114, .int ((chr P pl (q + 1)) - 48), .int two, .int three]) rfl rfl rfl rfl hl.1 ⟨Nat.le_of_ble_eq_true rfl, Nat.le_of_ble_eq_true rfl⟩ ⟨Nat.zero_le _, Nat.zero_le _⟩ (Nat.le_of_ble_eq_true rfl) d_M_order_161 (fun H locs hP hD hS => ?_)
      have hP : va_P D classes [(o, .inr (4, [.ref sa, .ref ba, .int (nI kn), .ref sl, .ref sv, .ref pd, .int (nI pl), .int (nI ((sg P pl 46 46 (((sg P pl 48 49 ((q + 1), false)).1), ((sg P pl 48 49 ((q + 1), false)).2))).1)), .int (b2 (sg P pl 46 46 (((sg P pl 48 49 ((q + 1), false)).1), ((sg P pl 48 49 ((q + 1), false)).2))).2), .int 114, .int ((chr P pl (q + 1)) - 48), .int two, .int three])), (pd, .inl (ca 0, 80, .inl P))] H := hP
      have hD : va_D A [(o, .inr (4, [.ref sa, .ref ba, .int (nI kn), .ref sl, .ref sv, .ref pd, .int (nI pl), .int (nI ((sg P pl 46 46 (((sg P pl 48 49 ((q + 1), false)).1), ((sg P pl 48 49 ((q + 1), false)).2))).1)), .int (b2 (sg P pl 46 46 (((sg P pl 48 49 ((q + 1), false)).1), ((sg P pl 48 49 ((q + 1), false)).2))).2), .int 114, .int ((chr P pl (q + 1)) - 48), .int two, .int three])), (pd, .inl (ca 0, 80, .inl P))] := hD
      have k2 := (sg_bd (P := P) (n := pl) (a := 46) (b := 46) (q := sg P pl 48 49 (q + 1, false)) (by decide) k1).2
      have k3 := (nm_bd (P := P) (n := pl) k2).2
      refine lv_goto (tgt := 168) hx hb d_M_order_164 (by decide) ?_
      refine lv_istore_n (lv' := [(3, .int (chr P pl ((sg P pl 48 49 ((q + 1), false)).1))), (2, .int 1), (1, .int 114), (0, .ref o)]) hx hb d_M_order_168 rfl hl (by decide) rfl (fun ls hl => ?_)
      refine lv_aload_n hx hb d_M_order_169 rfl (lv_at hl 3 rfl) ?_
      refine lv_iload_n hx hb d_M_order_170 rfl (lv_at hl 2 rfl) ?_
      refine lv_bipush (v := 120) hx hb d_M_order_171 (by decide) ?_
      refine lv_icmp_ne (tgt := 180) hx hb d_M_order_173 (by decide) (fun _ => ?_) (fun q => absurd q (by decide))
      refine lv_aload_n hx hb d_M_order_180 rfl (lv_at hl 3 rfl) ?_
      refine MI.callV (wr := []) S (c_M_number l D ca  o sa ba sl sv pd P kn pl ((sg P pl 46 46 (((sg P pl 48 49 ((q + 1), false)).1), ((sg P pl 48 49 ((q + 1), false)).2))).1) ((sg P pl 46 46 (((sg P pl 48 49 ((q + 1), false)).1), ((sg P pl 48 49 ((q + 1), false)).2))).2) 114 ((chr P pl (q + 1)) - 48) two three (by omega) (k2)) k_M_142 hP hD hS hA hK [0, 1] [] rfl rfl (by decide) (by decide) (by decide) 0 (ci := 4) (fs := [.ref sa, .ref ba, .int (nI kn), .ref sl, .ref sv, .ref pd, .int (nI pl), .int (nI ((sg P pl 46 46 (((sg P pl 48 49 ((q + 1), false)).1), ((sg P pl 48 49 ((q + 1), false)).2))).1)), .int (b2 (sg P pl 46 46 (((sg P pl 48 49 ((q + 1), false)).1), ((sg P pl 48 49 ((q + 1), false)).2))).2), .int 114, .int ((chr P pl (q + 1)) - 48), .int two, .int three]) rfl rfl rfl rfl hl.1 ⟨Nat.le_of_ble_eq_true rfl, Nat.le_of_ble_eq_true rfl⟩ ⟨Nat.zero_le _, Nat.zero_le _⟩ (Nat.le_of_ble_eq_true rfl) d_M_order_181 (fun H locs hP hD hS => ?_)
      have hP : va_P D classes [(o, .inr (4, [.ref sa, .ref ba, .int (nI kn), .ref sl, .ref sv, .ref pd, .int (nI pl), .int (nI ((nm P pl (((sg P pl 46 46 (((sg P pl 48 49 ((q + 1), false)).1), ((sg P pl 48 49 ((q + 1), false)).2))).1), ((sg P pl 46 46 (((sg P pl 48 49 ((q + 1), false)).1), ((sg P pl 48 49 ((q + 1), false)).2))).2))).2.1)), .int (b2 (nm P pl (((sg P pl 46 46 (((sg P pl 48 49 ((q + 1), false)).1), ((sg P pl 48 49 ((q + 1), false)).2))).1), ((sg P pl 46 46 (((sg P pl 48 49 ((q + 1), false)).1), ((sg P pl 48 49 ((q + 1), false)).2))).2))).2.2), .int 114, .int ((chr P pl (q + 1)) - 48), .int two, .int three])), (pd, .inl (ca 0, 80, .inl P))] H := hP
      have hD : va_D A [(o, .inr (4, [.ref sa, .ref ba, .int (nI kn), .ref sl, .ref sv, .ref pd, .int (nI pl), .int (nI ((nm P pl (((sg P pl 46 46 (((sg P pl 48 49 ((q + 1), false)).1), ((sg P pl 48 49 ((q + 1), false)).2))).1), ((sg P pl 46 46 (((sg P pl 48 49 ((q + 1), false)).1), ((sg P pl 48 49 ((q + 1), false)).2))).2))).2.1)), .int (b2 (nm P pl (((sg P pl 46 46 (((sg P pl 48 49 ((q + 1), false)).1), ((sg P pl 48 49 ((q + 1), false)).2))).1), ((sg P pl 46 46 (((sg P pl 48 49 ((q + 1), false)).1), ((sg P pl 48 49 ((q + 1), false)).2))).2))).2.2), .int 114, .int ((chr P pl (q + 1)) - 48), .int two, .int three])), (pd, .inl (ca 0, 80, .inl P))] := hD
      refine f_put S cls_M hK hP hD hS 0 rfl 11 (by decide) fl_M_two rfl rfl (rfl) (rfl) (Nat.le_of_ble_eq_true rfl) d_M_order_184 (fun H locs hP hD hS => ?_)
      have hP : va_P D classes [(o, .inr (4, [.ref sa, .ref ba, .int (nI kn), .ref sl, .ref sv, .ref pd, .int (nI pl), .int (nI ((nm P pl (((sg P pl 46 46 (((sg P pl 48 49 ((q + 1), false)).1), ((sg P pl 48 49 ((q + 1), false)).2))).1), ((sg P pl 46 46 (((sg P pl 48 49 ((q + 1), false)).1), ((sg P pl 48 49 ((q + 1), false)).2))).2))).2.1)), .int (b2 (nm P pl (((sg P pl 46 46 (((sg P pl 48 49 ((q + 1), false)).1), ((sg P pl 48 49 ((q + 1), false)).2))).1), ((sg P pl 46 46 (((sg P pl 48 49 ((q + 1), false)).1), ((sg P pl 48 49 ((q + 1), false)).2))).2))).2.2), .int 114, .int ((chr P pl (q + 1)) - 48), .int ((nm P pl (((sg P pl 46 46 (((sg P pl 48 49 ((q + 1), false)).1), ((sg P pl 48 49 ((q + 1), false)).2))).1), ((sg P pl 46 46 (((sg P pl 48 49 ((q + 1), false)).1), ((sg P pl 48 49 ((q + 1), false)).2))).2))).1), .int three])), (pd, .inl (ca 0, 80, .inl P))] H := hP
      have hD : va_D A [(o, .inr (4, [.ref sa, .ref ba, .int (nI kn), .ref sl, .ref sv, .ref pd, .int (nI pl), .int (nI ((nm P pl (((sg P pl 46 46 (((sg P pl 48 49 ((q + 1), false)).1), ((sg P pl 48 49 ((q + 1), false)).2))).1), ((sg P pl 46 46 (((sg P pl 48 49 ((q + 1), false)).1), ((sg P pl 48 49 ((q + 1), false)).2))).2))).2.1)), .int (b2 (nm P pl (((sg P pl 46 46 (((sg P pl 48 49 ((q + 1), false)).1), ((sg P pl 48 49 ((q + 1), false)).2))).1), ((sg P pl 46 46 (((sg P pl 48 49 ((q + 1), false)).1), ((sg P pl 48 49 ((q + 1), false)).2))).2))).2.2), .int 114, .int ((chr P pl (q + 1)) - 48), .int ((nm P pl (((sg P pl 46 46 (((sg P pl 48 49 ((q + 1), false)).1), ((sg P pl 48 49 ((q + 1), false)).2))).1), ((sg P pl 46 46 (((sg P pl 48 49 ((q + 1), false)).1), ((sg P pl 48 49 ((q + 1), false)).2))).2))).1), .int three])), (pd, .inl (ca 0, 80, .inl P))] := hD
      refine lv_iload_n hx hb d_M_order_187 rfl (lv_at hl 2 rfl) ?_
      refine lv_bipush (v := 119) hx hb d_M_order_188 (by decide) ?_
      refine lv_icmp_ne (tgt := 204) hx hb d_M_order_190 (by decide) (fun _ => ?_) (fun q => absurd q (by decide))
      refine lv_iconst (v := 0) hx hb d_M_order_204 (by decide) ?_
      refine lv_istore_n (lv' := [(3, .int 0), (2, .int 1), (1, .int 114), (0, .ref o)]) hx hb d_M_order_205 rfl hl (by decide) rfl (fun ls hl => ?_)
      refine lv_aload_n hx hb d_M_order_206 rfl (lv_at hl 3 rfl) ?_
      refine lv_iload_n hx hb d_M_order_207 rfl (lv_at hl 2 rfl) ?_
      refine lv_bipush (v := 119) hx hb d_M_order_208 (by decide) ?_
      refine lv_icmp_ne (tgt := 220) hx hb d_M_order_210 (by decide) (fun _ => ?_) (fun q => absurd q (by decide))
      refine lv_iconst (v := 0) hx hb d_M_order_220 (by decide) ?_
      refine f_put S cls_M hK hP hD hS 0 rfl 12 (by decide) fl_M_three rfl rfl (rfl) (rfl) (Nat.le_of_ble_eq_true rfl) d_M_order_221 (fun H locs hP hD hS => ?_)
      have hP : va_P D classes [(o, .inr (4, [.ref sa, .ref ba, .int (nI kn), .ref sl, .ref sv, .ref pd, .int (nI pl), .int (nI ((nm P pl (((sg P pl 46 46 (((sg P pl 48 49 ((q + 1), false)).1), ((sg P pl 48 49 ((q + 1), false)).2))).1), ((sg P pl 46 46 (((sg P pl 48 49 ((q + 1), false)).1), ((sg P pl 48 49 ((q + 1), false)).2))).2))).2.1)), .int (b2 (nm P pl (((sg P pl 46 46 (((sg P pl 48 49 ((q + 1), false)).1), ((sg P pl 48 49 ((q + 1), false)).2))).1), ((sg P pl 46 46 (((sg P pl 48 49 ((q + 1), false)).1), ((sg P pl 48 49 ((q + 1), false)).2))).2))).2.2), .int 114, .int ((chr P pl (q + 1)) - 48), .int ((nm P pl (((sg P pl 46 46 (((sg P pl 48 49 ((q + 1), false)).1), ((sg P pl 48 49 ((q + 1), false)).2))).1), ((sg P pl 46 46 (((sg P pl 48 49 ((q + 1), false)).1), ((sg P pl 48 49 ((q + 1), false)).2))).2))).1), .int 0])), (pd, .inl (ca 0, 80, .inl P))] H := hP
      have hD : va_D A [(o, .inr (4, [.ref sa, .ref ba, .int (nI kn), .ref sl, .ref sv, .ref pd, .int (nI pl), .int (nI ((nm P pl (((sg P pl 46 46 (((sg P pl 48 49 ((q + 1), false)).1), ((sg P pl 48 49 ((q + 1), false)).2))).1), ((sg P pl 46 46 (((sg P pl 48 49 ((q + 1), false)).1), ((sg P pl 48 49 ((q + 1), false)).2))).2))).2.1)), .int (b2 (nm P pl (((sg P pl 46 46 (((sg P pl 48 49 ((q + 1), false)).1), ((sg P pl 48 49 ((q + 1), false)).2))).1), ((sg P pl 46 46 (((sg P pl 48 49 ((q + 1), false)).1), ((sg P pl 48 49 ((q + 1), false)).2))).2))).2.2), .int 114, .int ((chr P pl (q + 1)) - 48), .int ((nm P pl (((sg P pl 46 46 (((sg P pl 48 49 ((q + 1), false)).1), ((sg P pl 48 49 ((q + 1), false)).2))).1), ((sg P pl 46 46 (((sg P pl 48 49 ((q + 1), false)).1), ((sg P pl 48 49 ((q + 1), false)).2))).2))).1), .int 0])), (pd, .inl (ca 0, 80, .inl P))] := hD
      refine lv_iload_n hx hb d_M_order_224 rfl (lv_at hl 2 rfl) ?_
      refine lv_bipush (v := 114) hx hb d_M_order_225 (by decide) ?_
      refine lv_icmp_ne (tgt := 255) hx hb d_M_order_227 (by decide) (fun q => absurd (by decide) q) (fun _ => ?_)
      refine lv_aload_n hx hb d_M_order_230 rfl (lv_at hl 3 rfl) ?_
      refine lv_bipush (v := 45) hx hb d_M_order_231 (by decide) ?_
      refine lv_bipush (v := 45) hx hb d_M_order_233 (by decide) ?_
      refine RO.callV S (c_M_isNext l D ca  o sa ba sl sv pd P kn pl ((nm P pl (((sg P pl 46 46 (((sg P pl 48 49 ((q + 1), false)).1), ((sg P pl 48 49 ((q + 1), false)).2))).1), ((sg P pl 46 46 (((sg P pl 48 49 ((q + 1), false)).1), ((sg P pl 48 49 ((q + 1), false)).2))).2))).2.1) ((nm P pl (((sg P pl 46 46 (((sg P pl 48 49 ((q + 1), false)).1), ((sg P pl 48 49 ((q + 1), false)).2))).1), ((sg P pl 46 46 (((sg P pl 48 49 ((q + 1), false)).1), ((sg P pl 48 49 ((q + 1), false)).2))).2))).2.2) 114 ((chr P pl (q + 1)) - 48) ((nm P pl (((sg P pl 46 46 (((sg P pl 48 49 ((q + 1), false)).1), ((sg P pl 48 49 ((q + 1), false)).2))).1), ((sg P pl 46 46 (((sg P pl 48 49 ((q + 1), false)).1), ((sg P pl 48 49 ((q + 1), false)).2))).2))).1) 0 45 45 (by omega) (k3)) k_M_133 hP hK [0, 1] rfl 0 (ci := 4) (fs := [.ref sa, .ref ba, .int (nI kn), .ref sl, .ref sv, .ref pd, .int (nI pl), .int (nI ((nm P pl (((sg P pl 46 46 (((sg P pl 48 49 ((q + 1), false)).1), ((sg P pl 48 49 ((q + 1), false)).2))).1), ((sg P pl 46 46 (((sg P pl 48 49 ((q + 1), false)).1), ((sg P pl 48 49 ((q + 1), false)).2))).2))).2.1)), .int (b2 (nm P pl (((sg P pl 46 46 (((sg P pl 48 49 ((q + 1), false)).1), ((sg P pl 48 49 ((q + 1), false)).2))).1), ((sg P pl 46 46 (((sg P pl 48 49 ((q + 1), false)).1), ((sg P pl 48 49 ((q + 1), false)).2))).2))).2.2), .int 114, .int ((chr P pl (q + 1)) - 48), .int ((nm P pl (((sg P pl 46 46 (((sg P pl 48 49 ((q + 1), false)).1), ((sg P pl 48 49 ((q + 1), false)).2))).1), ((sg P pl 46 46 (((sg P pl 48 49 ((q + 1), false)).1), ((sg P pl 48 49 ((q + 1), false)).2))).2))).1), .int 0]) rfl rfl rfl rfl hl.1 ⟨Nat.le_of_ble_eq_true rfl, Nat.le_of_ble_eq_true rfl⟩ ⟨Nat.zero_le _, Nat.zero_le _⟩ (Nat.le_of_ble_eq_true rfl) d_M_order_235 ?_
      refine lv_if_eq (tgt := 255) hx hb d_M_order_238 (by decide) (fun c_238 => ?_) (fun c_238 => ?_)
      · have e_238 := b2_z c_238
        exact hret _ _ _ _ _ d_M_order_255 (by first | (simp only [mo, mo_w, mo_r, mo_c, mo_m, Bool.false_eq_true, hc, e_238, ↓reduceIte]; done) | (simp only [mo, mo_w, mo_r, mo_c, mo_m, Bool.false_eq_true, hc, e_238, ↓reduceIte]; rfl) | rfl) hP hD hS
      · have e_238 := b2_n c_238
        refine lv_aload_n hx hb d_M_order_241 rfl (lv_at hl 3 rfl) ?_
        refine lv_iconst (v := 1) hx hb d_M_order_242 (by decide) ?_
        refine f_put S cls_M hK hP hD hS 0 rfl 12 (by decide) fl_M_three rfl rfl (rfl) (rfl) (Nat.le_of_ble_eq_true rfl) d_M_order_243 (fun H locs hP hD hS => ?_)
        have hP : va_P D classes [(o, .inr (4, [.ref sa, .ref ba, .int (nI kn), .ref sl, .ref sv, .ref pd, .int (nI pl), .int (nI ((nm P pl (((sg P pl 46 46 (((sg P pl 48 49 ((q + 1), false)).1), ((sg P pl 48 49 ((q + 1), false)).2))).1), ((sg P pl 46 46 (((sg P pl 48 49 ((q + 1), false)).1), ((sg P pl 48 49 ((q + 1), false)).2))).2))).2.1)), .int (b2 (nm P pl (((sg P pl 46 46 (((sg P pl 48 49 ((q + 1), false)).1), ((sg P pl 48 49 ((q + 1), false)).2))).1), ((sg P pl 46 46 (((sg P pl 48 49 ((q + 1), false)).1), ((sg P pl 48 49 ((q + 1), false)).2))).2))).2.2), .int 114, .int ((chr P pl (q + 1)) - 48), .int ((nm P pl (((sg P pl 46 46 (((sg P pl 48 49 ((q + 1), false)).1), ((sg P pl 48 49 ((q + 1), false)).2))).1), ((sg P pl 46 46 (((sg P pl 48 49 ((q + 1), false)).1), ((sg P pl 48 49 ((q + 1), false)).2))).2))).1), .int 1])), (pd, .inl (ca 0, 80, .inl P))] H := hP
        have hD : va_D A [(o, .inr (4, [.ref sa, .ref ba, .int (nI kn), .ref sl, .ref sv, .ref pd, .int (nI pl), .int (nI ((nm P pl (((sg P pl 46 46 (((sg P pl 48 49 ((q + 1), false)).1), ((sg P pl 48 49 ((q + 1), false)).2))).1), ((sg P pl 46 46 (((sg P pl 48 49 ((q + 1), false)).1), ((sg P pl 48 49 ((q + 1), false)).2))).2))).2.1)), .int (b2 (nm P pl (((sg P pl 46 46 (((sg P pl 48 49 ((q + 1), false)).1), ((sg P pl 48 49 ((q + 1), false)).2))).1), ((sg P pl 46 46 (((sg P pl 48 49 ((q + 1), false)).1), ((sg P pl 48 49 ((q + 1), false)).2))).2))).2.2), .int 114, .int ((chr P pl (q + 1)) - 48), .int ((nm P pl (((sg P pl 46 46 (((sg P pl 48 49 ((q + 1), false)).1), ((sg P pl 48 49 ((q + 1), false)).2))).1), ((sg P pl 46 46 (((sg P pl 48 49 ((q + 1), false)).1), ((sg P pl 48 49 ((q + 1), false)).2))).2))).1), .int 1])), (pd, .inl (ca 0, 80, .inl P))] := hD
        refine lv_aload_n hx hb d_M_order_246 rfl (lv_at hl 3 rfl) ?_
        refine lv_bipush (v := 45) hx hb d_M_order_247 (by decide) ?_
        refine lv_bipush (v := 45) hx hb d_M_order_249 (by decide) ?_
        refine MI.callV (wr := []) S (c_M_sign l D ca  o sa ba sl sv pd P kn pl ((nm P pl (((sg P pl 46 46 (((sg P pl 48 49 ((q + 1), false)).1), ((sg P pl 48 49 ((q + 1), false)).2))).1), ((sg P pl 46 46 (((sg P pl 48 49 ((q + 1), false)).1), ((sg P pl 48 49 ((q + 1), false)).2))).2))).2.1) ((nm P pl (((sg P pl 46 46 (((sg P pl 48 49 ((q + 1), false)).1), ((sg P pl 48 49 ((q + 1), false)).2))).1), ((sg P pl 46 46 (((sg P pl 48 49 ((q + 1), false)).1), ((sg P pl 48 49 ((q + 1), false)).2))).2))).2.2) 114 ((chr P pl (q + 1)) - 48) ((nm P pl (((sg P pl 46 46 (((sg P pl 48 49 ((q + 1), false)).1), ((sg P pl 48 49 ((q + 1), false)).2))).1), ((sg P pl 46 46 (((sg P pl 48 49 ((q + 1), false)).1), ((sg P pl 48 49 ((q + 1), false)).2))).2))).1) 1 45 45 (by omega) (k3)) k_M_130 hP hD hS hA hK [0, 1] [] rfl rfl (by decide) (by decide) (by decide) 0 (ci := 4) (fs := [.ref sa, .ref ba, .int (nI kn), .ref sl, .ref sv, .ref pd, .int (nI pl), .int (nI ((nm P pl (((sg P pl 46 46 (((sg P pl 48 49 ((q + 1), false)).1), ((sg P pl 48 49 ((q + 1), false)).2))).1), ((sg P pl 46 46 (((sg P pl 48 49 ((q + 1), false)).1), ((sg P pl 48 49 ((q + 1), false)).2))).2))).2.1)), .int (b2 (nm P pl (((sg P pl 46 46 (((sg P pl 48 49 ((q + 1), false)).1), ((sg P pl 48 49 ((q + 1), false)).2))).1), ((sg P pl 46 46 (((sg P pl 48 49 ((q + 1), false)).1), ((sg P pl 48 49 ((q + 1), false)).2))).2))).2.2), .int 114, .int ((chr P pl (q + 1)) - 48), .int ((nm P pl (((sg P pl 46 46 (((sg P pl 48 49 ((q + 1), false)).1), ((sg P pl 48 49 ((q + 1), false)).2))).1), ((sg P pl 46 46 (((sg P pl 48 49 ((q + 1), false)).1), ((sg P pl 48 49 ((q + 1), false)).2))).2))).1), .int 1]) rfl rfl rfl rfl hl.1 ⟨Nat.le_of_ble_eq_true rfl, Nat.le_of_ble_eq_true rfl⟩ ⟨Nat.zero_le _, Nat.zero_le _⟩ (Nat.le_of_ble_eq_true rfl) d_M_order_251 (fun H locs hP hD hS => ?_)
        have hP : va_P D classes [(o, .inr (4, [.ref sa, .ref ba, .int (nI kn), .ref sl, .ref sv, .ref pd, .int (nI pl), .int (nI ((sg P pl 45 45 (((nm P pl (((sg P pl 46 46 (((sg P pl 48 49 ((q + 1), false)).1), ((sg P pl 48 49 ((q + 1), false)).2))).1), ((sg P pl 46 46 (((sg P pl 48 49 ((q + 1), false)).1), ((sg P pl 48 49 ((q + 1), false)).2))).2))).2.1), ((nm P pl (((sg P pl 46 46 (((sg P pl 48 49 ((q + 1), false)).1), ((sg P pl 48 49 ((q + 1), false)).2))).1), ((sg P pl 46 46 (((sg P pl 48 49 ((q + 1), false)).1), ((sg P pl 48 49 ((q + 1), false)).2))).2))).2.2))).1)), .int (b2 (sg P pl 45 45 (((nm P pl (((sg P pl 46 46 (((sg P pl 48 49 ((q + 1), false)).1), ((sg P pl 48 49 ((q + 1), false)).2))).1), ((sg P pl 46 46 (((sg P pl 48 49 ((q + 1), false)).1), ((sg P pl 48 49 ((q + 1), false)).2))).2))).2.1), ((nm P pl (((sg P pl 46 46 (((sg P pl 48 49 ((q + 1), false)).1), ((sg P pl 48 49 ((q + 1), false)).2))).1), ((sg P pl 46 46 (((sg P pl 48 49 ((q + 1), false)).1), ((sg P pl 48 49 ((q + 1), false)).2))).2))).2.2))).2), .int 114, .int ((chr P pl (q + 1)) - 48), .int ((nm P pl (((sg P pl 46 46 (((sg P pl 48 49 ((q + 1), false)).1), ((sg P pl 48 49 ((q + 1), false)).2))).1), ((sg P pl 46 46 (((sg P pl 48 49 ((q + 1), false)).1), ((sg P pl 48 49 ((q + 1), false)).2))).2))).1), .int 1])), (pd, .inl (ca 0, 80, .inl P))] H := hP
        have hD : va_D A [(o, .inr (4, [.ref sa, .ref ba, .int (nI kn), .ref sl, .ref sv, .ref pd, .int (nI pl), .int (nI ((sg P pl 45 45 (((nm P pl (((sg P pl 46 46 (((sg P pl 48 49 ((q + 1), false)).1), ((sg P pl 48 49 ((q + 1), false)).2))).1), ((sg P pl 46 46 (((sg P pl 48 49 ((q + 1), false)).1), ((sg P pl 48 49 ((q + 1), false)).2))).2))).2.1), ((nm P pl (((sg P pl 46 46 (((sg P pl 48 49 ((q + 1), false)).1), ((sg P pl 48 49 ((q + 1), false)).2))).1), ((sg P pl 46 46 (((sg P pl 48 49 ((q + 1), false)).1), ((sg P pl 48 49 ((q + 1), false)).2))).2))).2.2))).1)), .int (b2 (sg P pl 45 45 (((nm P pl (((sg P pl 46 46 (((sg P pl 48 49 ((q + 1), false)).1), ((sg P pl 48 49 ((q + 1), false)).2))).1), ((sg P pl 46 46 (((sg P pl 48 49 ((q + 1), false)).1), ((sg P pl 48 49 ((q + 1), false)).2))).2))).2.1), ((nm P pl (((sg P pl 46 46 (((sg P pl 48 49 ((q + 1), false)).1), ((sg P pl 48 49 ((q + 1), false)).2))).1), ((sg P pl 46 46 (((sg P pl 48 49 ((q + 1), false)).1), ((sg P pl 48 49 ((q + 1), false)).2))).2))).2.2))).2), .int 114, .int ((chr P pl (q + 1)) - 48), .int ((nm P pl (((sg P pl 46 46 (((sg P pl 48 49 ((q + 1), false)).1), ((sg P pl 48 49 ((q + 1), false)).2))).1), ((sg P pl 46 46 (((sg P pl 48 49 ((q + 1), false)).1), ((sg P pl 48 49 ((q + 1), false)).2))).2))).1), .int 1])), (pd, .inl (ca 0, 80, .inl P))] := hD
        refine lv_istore_n (lv' := [(3, .int (chr P pl ((nm P pl (((sg P pl 46 46 (((sg P pl 48 49 ((q + 1), false)).1), ((sg P pl 48 49 ((q + 1), false)).2))).1), ((sg P pl 46 46 (((sg P pl 48 49 ((q + 1), false)).1), ((sg P pl 48 49 ((q + 1), false)).2))).2))).2.1))), (2, .int 1), (1, .int 114), (0, .ref o)]) hx hb d_M_order_254 rfl hl (by decide) rfl (fun ls hl => ?_)
        exact hret _ _ _ _ _ d_M_order_255 (by first | (simp only [mo, mo_w, mo_r, mo_c, mo_m, Bool.false_eq_true, hc, e_238, ↓reduceIte]; done) | (simp only [mo, mo_w, mo_r, mo_c, mo_m, Bool.false_eq_true, hc, e_238, ↓reduceIte]; rfl) | rfl) hP hD hS
    · rw [hc]
      have hp1 : q + 1 ≤ pl := chr_lt hc (by decide)
      refine lv_istore_n (lv' := [(1, .int 99), (0, .ref o)]) hx hb d_M_order_24 rfl hl (by decide) rfl (fun ls hl => ?_)
      refine lv_iload_n hx hb d_M_order_25 rfl (lv_at hl 0 rfl) ?_
      refine lv_bipush (v := 119) hx hb d_M_order_26 (by decide) ?_
      refine lv_icmp_eq (tgt := 43) hx hb d_M_order_28 (by decide) (fun q => absurd q (by decide)) (fun _ => ?_)
      refine lv_iload_n hx hb d_M_order_31 rfl (lv_at hl 0 rfl) ?_
      refine lv_bipush (v := 114) hx hb d_M_order_32 (by decide) ?_
      refine lv_icmp_eq (tgt := 43) hx hb d_M_order_34 (by decide) (fun q => absurd q (by decide)) (fun _ => ?_)
      refine lv_iload_n hx hb d_M_order_37 rfl (lv_at hl 0 rfl) ?_
      refine lv_bipush (v := 99) hx hb d_M_order_38 (by decide) ?_
      refine lv_icmp_ne (tgt := 47) hx hb d_M_order_40 (by decide) (fun q => absurd (by decide) q) (fun _ => ?_)
      refine lv_iconst (v := 1) hx hb d_M_order_43 (by decide) ?_
      refine lv_goto (tgt := 48) hx hb d_M_order_44 (by decide) ?_
      refine lv_istore_n (lv' := [(2, .int 1), (1, .int 99), (0, .ref o)]) hx hb d_M_order_48 rfl hl (by decide) rfl (fun ls hl => ?_)
      refine lv_aload_n hx hb d_M_order_49 rfl (lv_at hl 2 rfl) ?_
      refine lv_aload_n hx hb d_M_order_50 rfl (lv_at hl 2 rfl) ?_
      refine f_get S cls_M hK hP 0 rfl 8 (by decide) fl_M_isWrong rfl rfl d_M_order_51 ?_
      refine lv_if_ne (tgt := 73) hx hb d_M_order_54 (by decide) (fun q => absurd (by decide) q) (fun _ => ?_)
      refine lv_iload_n hx hb d_M_order_57 rfl (lv_at hl 0 rfl) ?_
      refine lv_if_ne (tgt := 77) hx hb d_M_order_58 (by decide) (fun _ => ?_) (fun q => absurd q (by decide))
      refine lv_iconst (v := 0) hx hb d_M_order_77 (by decide) ?_
      refine f_put S cls_M hK hP hD hS 0 rfl 8 (by decide) fl_M_isWrong rfl rfl (rfl) (rfl) (Nat.le_of_ble_eq_true rfl) d_M_order_78 (fun H locs hP hD hS => ?_)
      have hP : va_P D classes [(o, .inr (4, [.ref sa, .ref ba, .int (nI kn), .ref sl, .ref sv, .ref pd, .int (nI pl), .int (nI q), .int 0, .int le, .int one, .int two, .int three])), (pd, .inl (ca 0, 80, .inl P))] H := hP
      have hD : va_D A [(o, .inr (4, [.ref sa, .ref ba, .int (nI kn), .ref sl, .ref sv, .ref pd, .int (nI pl), .int (nI q), .int 0, .int le, .int one, .int two, .int three])), (pd, .inl (ca 0, 80, .inl P))] := hD
      refine lv_aload_n hx hb d_M_order_81 rfl (lv_at hl 2 rfl) ?_
      refine lv_dup hx hb d_M_order_82 rfl ?_
      refine f_get S cls_M hK hP 0 rfl 7 (by decide) fl_M_place rfl rfl d_M_order_83 ?_
      refine lv_aload_n hx hb d_M_order_86 rfl (lv_at hl 2 rfl) ?_
      refine f_get S cls_M hK hP 0 rfl 8 (by decide) fl_M_isWrong rfl rfl d_M_order_87 ?_
      refine lv_if_eq (tgt := 97) hx hb d_M_order_90 (by decide) (fun _ => ?_) (fun q => absurd (by decide) q)
      refine lv_iconst (v := 1) hx hb d_M_order_97 (by decide) ?_
      refine lv_iadd hx hb d_M_order_98 ?_
      refine lv_tope (z := nI (q + 1)) (nI_add q 1) ?_
      refine f_put S cls_M hK hP hD hS 0 rfl 7 (by decide) fl_M_place rfl rfl (rfl) (rfl) (Nat.le_of_ble_eq_true rfl) d_M_order_99 (fun H locs hP hD hS => ?_)
      have hP : va_P D classes [(o, .inr (4, [.ref sa, .ref ba, .int (nI kn), .ref sl, .ref sv, .ref pd, .int (nI pl), .int (nI (q + 1)), .int 0, .int le, .int one, .int two, .int three])), (pd, .inl (ca 0, 80, .inl P))] H := hP
      have hD : va_D A [(o, .inr (4, [.ref sa, .ref ba, .int (nI kn), .ref sl, .ref sv, .ref pd, .int (nI pl), .int (nI (q + 1)), .int 0, .int le, .int one, .int two, .int three])), (pd, .inl (ca 0, 80, .inl P))] := hD
      refine lv_aload_n hx hb d_M_order_102 rfl (lv_at hl 2 rfl) ?_
      refine lv_iload_n hx hb d_M_order_103 rfl (lv_at hl 1 rfl) ?_
      refine f_put S cls_M hK hP hD hS 0 rfl 9 (by decide) fl_M_letter rfl rfl (rfl) (rfl) (Nat.le_of_ble_eq_true rfl) d_M_order_104 (fun H locs hP hD hS => ?_)
      have hP : va_P D classes [(o, .inr (4, [.ref sa, .ref ba, .int (nI kn), .ref sl, .ref sv, .ref pd, .int (nI pl), .int (nI (q + 1)), .int 0, .int 99, .int one, .int two, .int three])), (pd, .inl (ca 0, 80, .inl P))] H := hP
      have hD : va_D A [(o, .inr (4, [.ref sa, .ref ba, .int (nI kn), .ref sl, .ref sv, .ref pd, .int (nI pl), .int (nI (q + 1)), .int 0, .int 99, .int one, .int two, .int three])), (pd, .inl (ca 0, 80, .inl P))] := hD
      refine lv_aload_n hx hb d_M_order_107 rfl (lv_at hl 2 rfl) ?_
      refine lv_iload_n hx hb d_M_order_108 rfl (lv_at hl 0 rfl) ?_
      refine lv_if_eq (tgt := 126) hx hb d_M_order_109 (by decide) (fun q => absurd q (by decide)) (fun _ => ?_)
      refine lv_aload_n hx hb d_M_order_112 rfl (lv_at hl 2 rfl) ?_
      refine lv_bipush (v := 48) hx hb d_M_order_113 (by decide) ?_
      refine lv_bipush (v := 49) hx hb d_M_order_115 (by decide) ?_
      refine MI.callV (wr := []) S (c_M_sign l D ca  o sa ba sl sv pd P kn pl (q + 1) false 99 one two three 48 49 (by omega) (hp1)) k_M_130 hP hD hS hA hK [0, 1] [] rfl rfl (by decide) (by decide) (by decide) 0 (ci := 4) (fs := [.ref sa, .ref ba, .int (nI kn), .ref sl, .ref sv, .ref pd, .int (nI pl), .int (nI (q + 1)), .int 0, .int 99, .int one, .int two, .int three]) rfl rfl rfl rfl hl.1 ⟨Nat.le_of_ble_eq_true rfl, Nat.le_of_ble_eq_true rfl⟩ ⟨Nat.zero_le _, Nat.zero_le _⟩ (Nat.le_of_ble_eq_true rfl) d_M_order_117 (fun H locs hP hD hS => ?_)
      have hP : va_P D classes [(o, .inr (4, [.ref sa, .ref ba, .int (nI kn), .ref sl, .ref sv, .ref pd, .int (nI pl), .int (nI ((sg P pl 48 49 ((q + 1), false)).1)), .int (b2 (sg P pl 48 49 ((q + 1), false)).2), .int 99, .int one, .int two, .int three])), (pd, .inl (ca 0, 80, .inl P))] H := hP
      have hD : va_D A [(o, .inr (4, [.ref sa, .ref ba, .int (nI kn), .ref sl, .ref sv, .ref pd, .int (nI pl), .int (nI ((sg P pl 48 49 ((q + 1), false)).1)), .int (b2 (sg P pl 48 49 ((q + 1), false)).2), .int 99, .int one, .int two, .int three])), (pd, .inl (ca 0, 80, .inl P))] := hD
      have k1 := (sg_bd (P := P) (n := pl) (a := 48) (b := 49) (q := (q + 1, false)) (by decide) hp1).2
      refine lv_bipush (v := 48) hx hb d_M_order_120 (by decide) ?_
      refine lv_isub hx hb d_M_order_122 ?_
      refine lv_goto (tgt := 127) hx hb d_M_order_123 (by decide) ?_
      refine f_put S cls_M hK hP hD hS 0 rfl 10 (by decide) fl_M_one rfl rfl (rfl) (rfl) (Nat.le_of_ble_eq_true rfl) d_M_order_127 (fun H locs hP hD hS => ?_)
      have hP : va_P D classes [(o, .inr (4, [.ref sa, .ref ba, .int (nI kn), .ref sl, .ref sv, .ref pd, .int (nI pl), .int (nI ((sg P pl 48 49 ((q + 1), false)).1)), .int (b2 (sg P pl 48 49 ((q + 1), false)).2), .int 99, .int ((chr P pl (q + 1)) - 48), .int two, .int three])), (pd, .inl (ca 0, 80, .inl P))] H := hP
      have hD : va_D A [(o, .inr (4, [.ref sa, .ref ba, .int (nI kn), .ref sl, .ref sv, .ref pd, .int (nI pl), .int (nI ((sg P pl 48 49 ((q + 1), false)).1)), .int (b2 (sg P pl 48 49 ((q + 1), false)).2), .int 99, .int ((chr P pl (q + 1)) - 48), .int two, .int three])), (pd, .inl (ca 0, 80, .inl P))] := hD
      refine lv_iload_n hx hb d_M_order_130 rfl (lv_at hl 0 rfl) ?_
      refine lv_if_eq (tgt := 167) hx hb d_M_order_131 (by decide) (fun q => absurd q (by decide)) (fun _ => ?_)
      refine lv_aload_n hx hb d_M_order_134 rfl (lv_at hl 2 rfl) ?_
      refine lv_iload_n hx hb d_M_order_135 rfl (lv_at hl 1 rfl) ?_
      refine lv_bipush (v := 119) hx hb d_M_order_136 (by decide) ?_
      refine lv_icmp_ne (tgt := 146) hx hb d_M_order_138 (by decide) (fun _ => ?_) (fun q => absurd q (by decide))
      refine lv_bipush (v := 46) hx hb d_M_order_146 (by decide) ?_
      refine lv_iload_n hx hb d_M_order_148 rfl (lv_at hl 1 rfl) ?_
      refine lv_bipush (v := 119) hx hb d_M_order_149 (by decide) ?_
      refine lv_icmp_ne (tgt := 159) hx hb d_M_order_151 (by decide) (fun _ => ?_) (fun q => absurd q (by decide))
      refine lv_bipush (v := 46) hx hb d_M_order_159 (by decide) ?_
      refine MI.callV (wr := []) S (c_M_sign l D ca  o sa ba sl sv pd P kn pl ((sg P pl 48 49 ((q + 1), false)).1) ((sg P pl 48 49 ((q + 1), false)).2) 99 ((chr P pl (q + 1)) - 48) two three 46 46 (by omega) (k1)) k_M_130 hP hD hS hA hK [0, 1] [] rfl rfl (by decide) (by decide) (by decide) 0 (ci := 4) (fs := [.ref sa, .ref ba, .int (nI kn), .ref sl, .ref sv, .ref pd, .int (nI pl), .int (nI ((sg P pl 48 49 ((q + 1), false)).1)), .int (b2 (sg P pl 48 49 ((q + 1), false)).2), .int 99, .int ((chr P pl (q + 1)) - 48), .int two, .int three]) rfl rfl rfl rfl hl.1 ⟨Nat.le_of_ble_eq_true rfl, Nat.le_of_ble_eq_true rfl⟩ ⟨Nat.zero_le _, Nat.zero_le _⟩ (Nat.le_of_ble_eq_true rfl) d_M_order_161 (fun H locs hP hD hS => ?_)
      have hP : va_P D classes [(o, .inr (4, [.ref sa, .ref ba, .int (nI kn), .ref sl, .ref sv, .ref pd, .int (nI pl), .int (nI ((sg P pl 46 46 (((sg P pl 48 49 ((q + 1), false)).1), ((sg P pl 48 49 ((q + 1), false)).2))).1)), .int (b2 (sg P pl 46 46 (((sg P pl 48 49 ((q + 1), false)).1), ((sg P pl 48 49 ((q + 1), false)).2))).2), .int 99, .int ((chr P pl (q + 1)) - 48), .int two, .int three])), (pd, .inl (ca 0, 80, .inl P))] H := hP
      have hD : va_D A [(o, .inr (4, [.ref sa, .ref ba, .int (nI kn), .ref sl, .ref sv, .ref pd, .int (nI pl), .int (nI ((sg P pl 46 46 (((sg P pl 48 49 ((q + 1), false)).1), ((sg P pl 48 49 ((q + 1), false)).2))).1)), .int (b2 (sg P pl 46 46 (((sg P pl 48 49 ((q + 1), false)).1), ((sg P pl 48 49 ((q + 1), false)).2))).2), .int 99, .int ((chr P pl (q + 1)) - 48), .int two, .int three])), (pd, .inl (ca 0, 80, .inl P))] := hD
      have k2 := (sg_bd (P := P) (n := pl) (a := 46) (b := 46) (q := sg P pl 48 49 (q + 1, false)) (by decide) k1).2
      have k3 := (nm_bd (P := P) (n := pl) k2).2
      refine lv_goto (tgt := 168) hx hb d_M_order_164 (by decide) ?_
      refine lv_istore_n (lv' := [(3, .int (chr P pl ((sg P pl 48 49 ((q + 1), false)).1))), (2, .int 1), (1, .int 99), (0, .ref o)]) hx hb d_M_order_168 rfl hl (by decide) rfl (fun ls hl => ?_)
      refine lv_aload_n hx hb d_M_order_169 rfl (lv_at hl 3 rfl) ?_
      refine lv_iload_n hx hb d_M_order_170 rfl (lv_at hl 2 rfl) ?_
      refine lv_bipush (v := 120) hx hb d_M_order_171 (by decide) ?_
      refine lv_icmp_ne (tgt := 180) hx hb d_M_order_173 (by decide) (fun _ => ?_) (fun q => absurd q (by decide))
      refine lv_aload_n hx hb d_M_order_180 rfl (lv_at hl 3 rfl) ?_
      refine MI.callV (wr := []) S (c_M_number l D ca  o sa ba sl sv pd P kn pl ((sg P pl 46 46 (((sg P pl 48 49 ((q + 1), false)).1), ((sg P pl 48 49 ((q + 1), false)).2))).1) ((sg P pl 46 46 (((sg P pl 48 49 ((q + 1), false)).1), ((sg P pl 48 49 ((q + 1), false)).2))).2) 99 ((chr P pl (q + 1)) - 48) two three (by omega) (k2)) k_M_142 hP hD hS hA hK [0, 1] [] rfl rfl (by decide) (by decide) (by decide) 0 (ci := 4) (fs := [.ref sa, .ref ba, .int (nI kn), .ref sl, .ref sv, .ref pd, .int (nI pl), .int (nI ((sg P pl 46 46 (((sg P pl 48 49 ((q + 1), false)).1), ((sg P pl 48 49 ((q + 1), false)).2))).1)), .int (b2 (sg P pl 46 46 (((sg P pl 48 49 ((q + 1), false)).1), ((sg P pl 48 49 ((q + 1), false)).2))).2), .int 99, .int ((chr P pl (q + 1)) - 48), .int two, .int three]) rfl rfl rfl rfl hl.1 ⟨Nat.le_of_ble_eq_true rfl, Nat.le_of_ble_eq_true rfl⟩ ⟨Nat.zero_le _, Nat.zero_le _⟩ (Nat.le_of_ble_eq_true rfl) d_M_order_181 (fun H locs hP hD hS => ?_)
      have hP : va_P D classes [(o, .inr (4, [.ref sa, .ref ba, .int (nI kn), .ref sl, .ref sv, .ref pd, .int (nI pl), .int (nI ((nm P pl (((sg P pl 46 46 (((sg P pl 48 49 ((q + 1), false)).1), ((sg P pl 48 49 ((q + 1), false)).2))).1), ((sg P pl 46 46 (((sg P pl 48 49 ((q + 1), false)).1), ((sg P pl 48 49 ((q + 1), false)).2))).2))).2.1)), .int (b2 (nm P pl (((sg P pl 46 46 (((sg P pl 48 49 ((q + 1), false)).1), ((sg P pl 48 49 ((q + 1), false)).2))).1), ((sg P pl 46 46 (((sg P pl 48 49 ((q + 1), false)).1), ((sg P pl 48 49 ((q + 1), false)).2))).2))).2.2), .int 99, .int ((chr P pl (q + 1)) - 48), .int two, .int three])), (pd, .inl (ca 0, 80, .inl P))] H := hP
      have hD : va_D A [(o, .inr (4, [.ref sa, .ref ba, .int (nI kn), .ref sl, .ref sv, .ref pd, .int (nI pl), .int (nI ((nm P pl (((sg P pl 46 46 (((sg P pl 48 49 ((q + 1), false)).1), ((sg P pl 48 49 ((q + 1), false)).2))).1), ((sg P pl 46 46 (((sg P pl 48 49 ((q + 1), false)).1), ((sg P pl 48 49 ((q + 1), false)).2))).2))).2.1)), .int (b2 (nm P pl (((sg P pl 46 46 (((sg P pl 48 49 ((q + 1), false)).1), ((sg P pl 48 49 ((q + 1), false)).2))).1), ((sg P pl 46 46 (((sg P pl 48 49 ((q + 1), false)).1), ((sg P pl 48 49 ((q + 1), false)).2))).2))).2.2), .int 99, .int ((chr P pl (q + 1)) - 48), .int two, .int three])), (pd, .inl (ca 0, 80, .inl P))] := hD
      refine f_put S cls_M hK hP hD hS 0 rfl 11 (by decide) fl_M_two rfl rfl (rfl) (rfl) (Nat.le_of_ble_eq_true rfl) d_M_order_184 (fun H locs hP hD hS => ?_)
      have hP : va_P D classes [(o, .inr (4, [.ref sa, .ref ba, .int (nI kn), .ref sl, .ref sv, .ref pd, .int (nI pl), .int (nI ((nm P pl (((sg P pl 46 46 (((sg P pl 48 49 ((q + 1), false)).1), ((sg P pl 48 49 ((q + 1), false)).2))).1), ((sg P pl 46 46 (((sg P pl 48 49 ((q + 1), false)).1), ((sg P pl 48 49 ((q + 1), false)).2))).2))).2.1)), .int (b2 (nm P pl (((sg P pl 46 46 (((sg P pl 48 49 ((q + 1), false)).1), ((sg P pl 48 49 ((q + 1), false)).2))).1), ((sg P pl 46 46 (((sg P pl 48 49 ((q + 1), false)).1), ((sg P pl 48 49 ((q + 1), false)).2))).2))).2.2), .int 99, .int ((chr P pl (q + 1)) - 48), .int ((nm P pl (((sg P pl 46 46 (((sg P pl 48 49 ((q + 1), false)).1), ((sg P pl 48 49 ((q + 1), false)).2))).1), ((sg P pl 46 46 (((sg P pl 48 49 ((q + 1), false)).1), ((sg P pl 48 49 ((q + 1), false)).2))).2))).1), .int three])), (pd, .inl (ca 0, 80, .inl P))] H := hP
      have hD : va_D A [(o, .inr (4, [.ref sa, .ref ba, .int (nI kn), .ref sl, .ref sv, .ref pd, .int (nI pl), .int (nI ((nm P pl (((sg P pl 46 46 (((sg P pl 48 49 ((q + 1), false)).1), ((sg P pl 48 49 ((q + 1), false)).2))).1), ((sg P pl 46 46 (((sg P pl 48 49 ((q + 1), false)).1), ((sg P pl 48 49 ((q + 1), false)).2))).2))).2.1)), .int (b2 (nm P pl (((sg P pl 46 46 (((sg P pl 48 49 ((q + 1), false)).1), ((sg P pl 48 49 ((q + 1), false)).2))).1), ((sg P pl 46 46 (((sg P pl 48 49 ((q + 1), false)).1), ((sg P pl 48 49 ((q + 1), false)).2))).2))).2.2), .int 99, .int ((chr P pl (q + 1)) - 48), .int ((nm P pl (((sg P pl 46 46 (((sg P pl 48 49 ((q + 1), false)).1), ((sg P pl 48 49 ((q + 1), false)).2))).1), ((sg P pl 46 46 (((sg P pl 48 49 ((q + 1), false)).1), ((sg P pl 48 49 ((q + 1), false)).2))).2))).1), .int three])), (pd, .inl (ca 0, 80, .inl P))] := hD
      refine lv_iload_n hx hb d_M_order_187 rfl (lv_at hl 2 rfl) ?_
      refine lv_bipush (v := 119) hx hb d_M_order_188 (by decide) ?_
      refine lv_icmp_ne (tgt := 204) hx hb d_M_order_190 (by decide) (fun _ => ?_) (fun q => absurd q (by decide))
      refine lv_iconst (v := 0) hx hb d_M_order_204 (by decide) ?_
      refine lv_istore_n (lv' := [(3, .int 0), (2, .int 1), (1, .int 99), (0, .ref o)]) hx hb d_M_order_205 rfl hl (by decide) rfl (fun ls hl => ?_)
      refine lv_aload_n hx hb d_M_order_206 rfl (lv_at hl 3 rfl) ?_
      refine lv_iload_n hx hb d_M_order_207 rfl (lv_at hl 2 rfl) ?_
      refine lv_bipush (v := 119) hx hb d_M_order_208 (by decide) ?_
      refine lv_icmp_ne (tgt := 220) hx hb d_M_order_210 (by decide) (fun _ => ?_) (fun q => absurd q (by decide))
      refine lv_iconst (v := 0) hx hb d_M_order_220 (by decide) ?_
      refine f_put S cls_M hK hP hD hS 0 rfl 12 (by decide) fl_M_three rfl rfl (rfl) (rfl) (Nat.le_of_ble_eq_true rfl) d_M_order_221 (fun H locs hP hD hS => ?_)
      have hP : va_P D classes [(o, .inr (4, [.ref sa, .ref ba, .int (nI kn), .ref sl, .ref sv, .ref pd, .int (nI pl), .int (nI ((nm P pl (((sg P pl 46 46 (((sg P pl 48 49 ((q + 1), false)).1), ((sg P pl 48 49 ((q + 1), false)).2))).1), ((sg P pl 46 46 (((sg P pl 48 49 ((q + 1), false)).1), ((sg P pl 48 49 ((q + 1), false)).2))).2))).2.1)), .int (b2 (nm P pl (((sg P pl 46 46 (((sg P pl 48 49 ((q + 1), false)).1), ((sg P pl 48 49 ((q + 1), false)).2))).1), ((sg P pl 46 46 (((sg P pl 48 49 ((q + 1), false)).1), ((sg P pl 48 49 ((q + 1), false)).2))).2))).2.2), .int 99, .int ((chr P pl (q + 1)) - 48), .int ((nm P pl (((sg P pl 46 46 (((sg P pl 48 49 ((q + 1), false)).1), ((sg P pl 48 49 ((q + 1), false)).2))).1), ((sg P pl 46 46 (((sg P pl 48 49 ((q + 1), false)).1), ((sg P pl 48 49 ((q + 1), false)).2))).2))).1), .int 0])), (pd, .inl (ca 0, 80, .inl P))] H := hP
      have hD : va_D A [(o, .inr (4, [.ref sa, .ref ba, .int (nI kn), .ref sl, .ref sv, .ref pd, .int (nI pl), .int (nI ((nm P pl (((sg P pl 46 46 (((sg P pl 48 49 ((q + 1), false)).1), ((sg P pl 48 49 ((q + 1), false)).2))).1), ((sg P pl 46 46 (((sg P pl 48 49 ((q + 1), false)).1), ((sg P pl 48 49 ((q + 1), false)).2))).2))).2.1)), .int (b2 (nm P pl (((sg P pl 46 46 (((sg P pl 48 49 ((q + 1), false)).1), ((sg P pl 48 49 ((q + 1), false)).2))).1), ((sg P pl 46 46 (((sg P pl 48 49 ((q + 1), false)).1), ((sg P pl 48 49 ((q + 1), false)).2))).2))).2.2), .int 99, .int ((chr P pl (q + 1)) - 48), .int ((nm P pl (((sg P pl 46 46 (((sg P pl 48 49 ((q + 1), false)).1), ((sg P pl 48 49 ((q + 1), false)).2))).1), ((sg P pl 46 46 (((sg P pl 48 49 ((q + 1), false)).1), ((sg P pl 48 49 ((q + 1), false)).2))).2))).1), .int 0])), (pd, .inl (ca 0, 80, .inl P))] := hD
      refine lv_iload_n hx hb d_M_order_224 rfl (lv_at hl 2 rfl) ?_
      refine lv_bipush (v := 114) hx hb d_M_order_225 (by decide) ?_
      refine lv_icmp_ne (tgt := 255) hx hb d_M_order_227 (by decide) (fun _ => ?_) (fun q => absurd q (by decide))
      exact hret _ _ _ _ _ d_M_order_255 (by first | (simp only [mo, mo_w, mo_r, mo_c, mo_m, Bool.false_eq_true, hc, ↓reduceIte]; done) | (simp only [mo, mo_w, mo_r, mo_c, mo_m, Bool.false_eq_true, hc, ↓reduceIte]; rfl) | rfl) hP hD hS
    · rw [hc]
      have hp1 : q + 1 ≤ pl := chr_lt hc (by decide)
      refine lv_istore_n (lv' := [(1, .int 109), (0, .ref o)]) hx hb d_M_order_24 rfl hl (by decide) rfl (fun ls hl => ?_)
      refine lv_iload_n hx hb d_M_order_25 rfl (lv_at hl 0 rfl) ?_
      refine lv_bipush (v := 119) hx hb d_M_order_26 (by decide) ?_
      refine lv_icmp_eq (tgt := 43) hx hb d_M_order_28 (by decide) (fun q => absurd q (by decide)) (fun _ => ?_)
      refine lv_iload_n hx hb d_M_order_31 rfl (lv_at hl 0 rfl) ?_
      refine lv_bipush (v := 114) hx hb d_M_order_32 (by decide) ?_
      refine lv_icmp_eq (tgt := 43) hx hb d_M_order_34 (by decide) (fun q => absurd q (by decide)) (fun _ => ?_)
      refine lv_iload_n hx hb d_M_order_37 rfl (lv_at hl 0 rfl) ?_
      refine lv_bipush (v := 99) hx hb d_M_order_38 (by decide) ?_
      refine lv_icmp_ne (tgt := 47) hx hb d_M_order_40 (by decide) (fun _ => ?_) (fun q => absurd q (by decide))
      refine lv_iconst (v := 0) hx hb d_M_order_47 (by decide) ?_
      refine lv_istore_n (lv' := [(2, .int 0), (1, .int 109), (0, .ref o)]) hx hb d_M_order_48 rfl hl (by decide) rfl (fun ls hl => ?_)
      refine lv_aload_n hx hb d_M_order_49 rfl (lv_at hl 2 rfl) ?_
      refine lv_aload_n hx hb d_M_order_50 rfl (lv_at hl 2 rfl) ?_
      refine f_get S cls_M hK hP 0 rfl 8 (by decide) fl_M_isWrong rfl rfl d_M_order_51 ?_
      refine lv_if_ne (tgt := 73) hx hb d_M_order_54 (by decide) (fun q => absurd (by decide) q) (fun _ => ?_)
      refine lv_iload_n hx hb d_M_order_57 rfl (lv_at hl 0 rfl) ?_
      refine lv_if_ne (tgt := 77) hx hb d_M_order_58 (by decide) (fun q => absurd (by decide) q) (fun _ => ?_)
      refine lv_iload_n hx hb d_M_order_61 rfl (lv_at hl 1 rfl) ?_
      refine lv_bipush (v := 109) hx hb d_M_order_62 (by decide) ?_
      refine lv_icmp_eq (tgt := 77) hx hb d_M_order_64 (by decide) (fun _ => ?_) (fun q => absurd (by decide) q)
      refine lv_iconst (v := 0) hx hb d_M_order_77 (by decide) ?_
      refine f_put S cls_M hK hP hD hS 0 rfl 8 (by decide) fl_M_isWrong rfl rfl (rfl) (rfl) (Nat.le_of_ble_eq_true rfl) d_M_order_78 (fun H locs hP hD hS => ?_)
      have hP : va_P D classes [(o, .inr (4, [.ref sa, .ref ba, .int (nI kn), .ref sl, .ref sv, .ref pd, .int (nI pl), .int (nI q), .int 0, .int le, .int one, .int two, .int three])), (pd, .inl (ca 0, 80, .inl P))] H := hP
      have hD : va_D A [(o, .inr (4, [.ref sa, .ref ba, .int (nI kn), .ref sl, .ref sv, .ref pd, .int (nI pl), .int (nI q), .int 0, .int le, .int one, .int two, .int three])), (pd, .inl (ca 0, 80, .inl P))] := hD
      refine lv_aload_n hx hb d_M_order_81 rfl (lv_at hl 2 rfl) ?_
      refine lv_dup hx hb d_M_order_82 rfl ?_
      refine f_get S cls_M hK hP 0 rfl 7 (by decide) fl_M_place rfl rfl d_M_order_83 ?_
      refine lv_aload_n hx hb d_M_order_86 rfl (lv_at hl 2 rfl) ?_
      refine f_get S cls_M hK hP 0 rfl 8 (by decide) fl_M_isWrong rfl rfl d_M_order_87 ?_
      refine lv_if_eq (tgt := 97) hx hb d_M_order_90 (by decide) (fun _ => ?_) (fun q => absurd (by decide) q)
      refine lv_iconst (v := 1) hx hb d_M_order_97 (by decide) ?_
      refine lv_iadd hx hb d_M_order_98 ?_
      refine lv_tope (z := nI (q + 1)) (nI_add q 1) ?_
      refine f_put S cls_M hK hP hD hS 0 rfl 7 (by decide) fl_M_place rfl rfl (rfl) (rfl) (Nat.le_of_ble_eq_true rfl) d_M_order_99 (fun H locs hP hD hS => ?_)
      have hP : va_P D classes [(o, .inr (4, [.ref sa, .ref ba, .int (nI kn), .ref sl, .ref sv, .ref pd, .int (nI pl), .int (nI (q + 1)), .int 0, .int le, .int one, .int two, .int three])), (pd, .inl (ca 0, 80, .inl P))] H := hP
      have hD : va_D A [(o, .inr (4, [.ref sa, .ref ba, .int (nI kn), .ref sl, .ref sv, .ref pd, .int (nI pl), .int (nI (q + 1)), .int 0, .int le, .int one, .int two, .int three])), (pd, .inl (ca 0, 80, .inl P))] := hD
      refine lv_aload_n hx hb d_M_order_102 rfl (lv_at hl 2 rfl) ?_
      refine lv_iload_n hx hb d_M_order_103 rfl (lv_at hl 1 rfl) ?_
      refine f_put S cls_M hK hP hD hS 0 rfl 9 (by decide) fl_M_letter rfl rfl (rfl) (rfl) (Nat.le_of_ble_eq_true rfl) d_M_order_104 (fun H locs hP hD hS => ?_)
      have hP : va_P D classes [(o, .inr (4, [.ref sa, .ref ba, .int (nI kn), .ref sl, .ref sv, .ref pd, .int (nI pl), .int (nI (q + 1)), .int 0, .int 109, .int one, .int two, .int three])), (pd, .inl (ca 0, 80, .inl P))] H := hP
      have hD : va_D A [(o, .inr (4, [.ref sa, .ref ba, .int (nI kn), .ref sl, .ref sv, .ref pd, .int (nI pl), .int (nI (q + 1)), .int 0, .int 109, .int one, .int two, .int three])), (pd, .inl (ca 0, 80, .inl P))] := hD
      refine lv_aload_n hx hb d_M_order_107 rfl (lv_at hl 2 rfl) ?_
      refine lv_iload_n hx hb d_M_order_108 rfl (lv_at hl 0 rfl) ?_
      refine lv_if_eq (tgt := 126) hx hb d_M_order_109 (by decide) (fun _ => ?_) (fun q => absurd (by decide) q)
      refine lv_iconst (v := 0) hx hb d_M_order_126 (by decide) ?_
      refine f_put S cls_M hK hP hD hS 0 rfl 10 (by decide) fl_M_one rfl rfl (rfl) (rfl) (Nat.le_of_ble_eq_true rfl) d_M_order_127 (fun H locs hP hD hS => ?_)
      have hP : va_P D classes [(o, .inr (4, [.ref sa, .ref ba, .int (nI kn), .ref sl, .ref sv, .ref pd, .int (nI pl), .int (nI (q + 1)), .int 0, .int 109, .int 0, .int two, .int three])), (pd, .inl (ca 0, 80, .inl P))] H := hP
      have hD : va_D A [(o, .inr (4, [.ref sa, .ref ba, .int (nI kn), .ref sl, .ref sv, .ref pd, .int (nI pl), .int (nI (q + 1)), .int 0, .int 109, .int 0, .int two, .int three])), (pd, .inl (ca 0, 80, .inl P))] := hD
      refine lv_iload_n hx hb d_M_order_130 rfl (lv_at hl 0 rfl) ?_
      refine lv_if_eq (tgt := 167) hx hb d_M_order_131 (by decide) (fun _ => ?_) (fun q => absurd (by decide) q)
      refine lv_iconst (v := 0) hx hb d_M_order_167 (by decide) ?_
      refine lv_istore_n (lv' := [(3, .int 0), (2, .int 0), (1, .int 109), (0, .ref o)]) hx hb d_M_order_168 rfl hl (by decide) rfl (fun ls hl => ?_)
      refine lv_aload_n hx hb d_M_order_169 rfl (lv_at hl 3 rfl) ?_
      refine lv_iload_n hx hb d_M_order_170 rfl (lv_at hl 2 rfl) ?_
      refine lv_bipush (v := 120) hx hb d_M_order_171 (by decide) ?_
      refine lv_icmp_ne (tgt := 180) hx hb d_M_order_173 (by decide) (fun _ => ?_) (fun q => absurd q (by decide))
      refine lv_aload_n hx hb d_M_order_180 rfl (lv_at hl 3 rfl) ?_
      refine MI.callV (wr := []) S (c_M_number l D ca  o sa ba sl sv pd P kn pl (q + 1) false 109 0 two three (by omega) (hp1)) k_M_142 hP hD hS hA hK [0, 1] [] rfl rfl (by decide) (by decide) (by decide) 0 (ci := 4) (fs := [.ref sa, .ref ba, .int (nI kn), .ref sl, .ref sv, .ref pd, .int (nI pl), .int (nI (q + 1)), .int 0, .int 109, .int 0, .int two, .int three]) rfl rfl rfl rfl hl.1 ⟨Nat.le_of_ble_eq_true rfl, Nat.le_of_ble_eq_true rfl⟩ ⟨Nat.zero_le _, Nat.zero_le _⟩ (Nat.le_of_ble_eq_true rfl) d_M_order_181 (fun H locs hP hD hS => ?_)
      have hP : va_P D classes [(o, .inr (4, [.ref sa, .ref ba, .int (nI kn), .ref sl, .ref sv, .ref pd, .int (nI pl), .int (nI ((nm P pl ((q + 1), false)).2.1)), .int (b2 (nm P pl ((q + 1), false)).2.2), .int 109, .int 0, .int two, .int three])), (pd, .inl (ca 0, 80, .inl P))] H := hP
      have hD : va_D A [(o, .inr (4, [.ref sa, .ref ba, .int (nI kn), .ref sl, .ref sv, .ref pd, .int (nI pl), .int (nI ((nm P pl ((q + 1), false)).2.1)), .int (b2 (nm P pl ((q + 1), false)).2.2), .int 109, .int 0, .int two, .int three])), (pd, .inl (ca 0, 80, .inl P))] := hD
      refine f_put S cls_M hK hP hD hS 0 rfl 11 (by decide) fl_M_two rfl rfl (rfl) (rfl) (Nat.le_of_ble_eq_true rfl) d_M_order_184 (fun H locs hP hD hS => ?_)
      have hP : va_P D classes [(o, .inr (4, [.ref sa, .ref ba, .int (nI kn), .ref sl, .ref sv, .ref pd, .int (nI pl), .int (nI ((nm P pl ((q + 1), false)).2.1)), .int (b2 (nm P pl ((q + 1), false)).2.2), .int 109, .int 0, .int ((nm P pl ((q + 1), false)).1), .int three])), (pd, .inl (ca 0, 80, .inl P))] H := hP
      have hD : va_D A [(o, .inr (4, [.ref sa, .ref ba, .int (nI kn), .ref sl, .ref sv, .ref pd, .int (nI pl), .int (nI ((nm P pl ((q + 1), false)).2.1)), .int (b2 (nm P pl ((q + 1), false)).2.2), .int 109, .int 0, .int ((nm P pl ((q + 1), false)).1), .int three])), (pd, .inl (ca 0, 80, .inl P))] := hD
      refine lv_iload_n hx hb d_M_order_187 rfl (lv_at hl 2 rfl) ?_
      refine lv_bipush (v := 119) hx hb d_M_order_188 (by decide) ?_
      refine lv_icmp_ne (tgt := 204) hx hb d_M_order_190 (by decide) (fun _ => ?_) (fun q => absurd q (by decide))
      refine lv_iconst (v := 0) hx hb d_M_order_204 (by decide) ?_
      refine lv_istore_n (lv' := [(3, .int 0), (2, .int 0), (1, .int 109), (0, .ref o)]) hx hb d_M_order_205 rfl hl (by decide) rfl (fun ls hl => ?_)
      refine lv_aload_n hx hb d_M_order_206 rfl (lv_at hl 3 rfl) ?_
      refine lv_iload_n hx hb d_M_order_207 rfl (lv_at hl 2 rfl) ?_
      refine lv_bipush (v := 119) hx hb d_M_order_208 (by decide) ?_
      refine lv_icmp_ne (tgt := 220) hx hb d_M_order_210 (by decide) (fun _ => ?_) (fun q => absurd q (by decide))
      refine lv_iconst (v := 0) hx hb d_M_order_220 (by decide) ?_
      refine f_put S cls_M hK hP hD hS 0 rfl 12 (by decide) fl_M_three rfl rfl (rfl) (rfl) (Nat.le_of_ble_eq_true rfl) d_M_order_221 (fun H locs hP hD hS => ?_)
      have hP : va_P D classes [(o, .inr (4, [.ref sa, .ref ba, .int (nI kn), .ref sl, .ref sv, .ref pd, .int (nI pl), .int (nI ((nm P pl ((q + 1), false)).2.1)), .int (b2 (nm P pl ((q + 1), false)).2.2), .int 109, .int 0, .int ((nm P pl ((q + 1), false)).1), .int 0])), (pd, .inl (ca 0, 80, .inl P))] H := hP
      have hD : va_D A [(o, .inr (4, [.ref sa, .ref ba, .int (nI kn), .ref sl, .ref sv, .ref pd, .int (nI pl), .int (nI ((nm P pl ((q + 1), false)).2.1)), .int (b2 (nm P pl ((q + 1), false)).2.2), .int 109, .int 0, .int ((nm P pl ((q + 1), false)).1), .int 0])), (pd, .inl (ca 0, 80, .inl P))] := hD
      refine lv_iload_n hx hb d_M_order_224 rfl (lv_at hl 2 rfl) ?_
      refine lv_bipush (v := 114) hx hb d_M_order_225 (by decide) ?_
      refine lv_icmp_ne (tgt := 255) hx hb d_M_order_227 (by decide) (fun _ => ?_) (fun q => absurd q (by decide))
      exact hret _ _ _ _ _ d_M_order_255 (by first | (simp only [mo, mo_w, mo_r, mo_c, mo_m, Bool.false_eq_true, hc, ↓reduceIte]; done) | (simp only [mo, mo_w, mo_r, mo_c, mo_m, Bool.false_eq_true, hc, ↓reduceIte]; rfl) | rfl) hP hD hS
    · rw [hc]
      have hp1 : q + 1 ≤ pl := chr_lt hc (by decide)
      refine lv_istore_n (lv' := [(1, .int 120), (0, .ref o)]) hx hb d_M_order_24 rfl hl (by decide) rfl (fun ls hl => ?_)
      refine lv_iload_n hx hb d_M_order_25 rfl (lv_at hl 0 rfl) ?_
      refine lv_bipush (v := 119) hx hb d_M_order_26 (by decide) ?_
      refine lv_icmp_eq (tgt := 43) hx hb d_M_order_28 (by decide) (fun q => absurd q (by decide)) (fun _ => ?_)
      refine lv_iload_n hx hb d_M_order_31 rfl (lv_at hl 0 rfl) ?_
      refine lv_bipush (v := 114) hx hb d_M_order_32 (by decide) ?_
      refine lv_icmp_eq (tgt := 43) hx hb d_M_order_34 (by decide) (fun q => absurd q (by decide)) (fun _ => ?_)
      refine lv_iload_n hx hb d_M_order_37 rfl (lv_at hl 0 rfl) ?_
      refine lv_bipush (v := 99) hx hb d_M_order_38 (by decide) ?_
      refine lv_icmp_ne (tgt := 47) hx hb d_M_order_40 (by decide) (fun _ => ?_) (fun q => absurd q (by decide))
      refine lv_iconst (v := 0) hx hb d_M_order_47 (by decide) ?_
      refine lv_istore_n (lv' := [(2, .int 0), (1, .int 120), (0, .ref o)]) hx hb d_M_order_48 rfl hl (by decide) rfl (fun ls hl => ?_)
      refine lv_aload_n hx hb d_M_order_49 rfl (lv_at hl 2 rfl) ?_
      refine lv_aload_n hx hb d_M_order_50 rfl (lv_at hl 2 rfl) ?_
      refine f_get S cls_M hK hP 0 rfl 8 (by decide) fl_M_isWrong rfl rfl d_M_order_51 ?_
      refine lv_if_ne (tgt := 73) hx hb d_M_order_54 (by decide) (fun q => absurd (by decide) q) (fun _ => ?_)
      refine lv_iload_n hx hb d_M_order_57 rfl (lv_at hl 0 rfl) ?_
      refine lv_if_ne (tgt := 77) hx hb d_M_order_58 (by decide) (fun q => absurd (by decide) q) (fun _ => ?_)
      refine lv_iload_n hx hb d_M_order_61 rfl (lv_at hl 1 rfl) ?_
      refine lv_bipush (v := 109) hx hb d_M_order_62 (by decide) ?_
      refine lv_icmp_eq (tgt := 77) hx hb d_M_order_64 (by decide) (fun q => absurd q (by decide)) (fun _ => ?_)
      refine lv_iload_n hx hb d_M_order_67 rfl (lv_at hl 1 rfl) ?_
      refine lv_bipush (v := 120) hx hb d_M_order_68 (by decide) ?_
      refine lv_icmp_eq (tgt := 77) hx hb d_M_order_70 (by decide) (fun _ => ?_) (fun q => absurd (by decide) q)
      refine lv_iconst (v := 0) hx hb d_M_order_77 (by decide) ?_
      refine f_put S cls_M hK hP hD hS 0 rfl 8 (by decide) fl_M_isWrong rfl rfl (rfl) (rfl) (Nat.le_of_ble_eq_true rfl) d_M_order_78 (fun H locs hP hD hS => ?_)
      have hP : va_P D classes [(o, .inr (4, [.ref sa, .ref ba, .int (nI kn), .ref sl, .ref sv, .ref pd, .int (nI pl), .int (nI q), .int 0, .int le, .int one, .int two, .int three])), (pd, .inl (ca 0, 80, .inl P))] H := hP
      have hD : va_D A [(o, .inr (4, [.ref sa, .ref ba, .int (nI kn), .ref sl, .ref sv, .ref pd, .int (nI pl), .int (nI q), .int 0, .int le, .int one, .int two, .int three])), (pd, .inl (ca 0, 80, .inl P))] := hD
      refine lv_aload_n hx hb d_M_order_81 rfl (lv_at hl 2 rfl) ?_
      refine lv_dup hx hb d_M_order_82 rfl ?_
      refine f_get S cls_M hK hP 0 rfl 7 (by decide) fl_M_place rfl rfl d_M_order_83 ?_
      refine lv_aload_n hx hb d_M_order_86 rfl (lv_at hl 2 rfl) ?_
      refine f_get S cls_M hK hP 0 rfl 8 (by decide) fl_M_isWrong rfl rfl d_M_order_87 ?_
      refine lv_if_eq (tgt := 97) hx hb d_M_order_90 (by decide) (fun _ => ?_) (fun q => absurd (by decide) q)
      refine lv_iconst (v := 1) hx hb d_M_order_97 (by decide) ?_
      refine lv_iadd hx hb d_M_order_98 ?_
      refine lv_tope (z := nI (q + 1)) (nI_add q 1) ?_
      refine f_put S cls_M hK hP hD hS 0 rfl 7 (by decide) fl_M_place rfl rfl (rfl) (rfl) (Nat.le_of_ble_eq_true rfl) d_M_order_99 (fun H locs hP hD hS => ?_)
      have hP : va_P D classes [(o, .inr (4, [.ref sa, .ref ba, .int (nI kn), .ref sl, .ref sv, .ref pd, .int (nI pl), .int (nI (q + 1)), .int 0, .int le, .int one, .int two, .int three])), (pd, .inl (ca 0, 80, .inl P))] H := hP
      have hD : va_D A [(o, .inr (4, [.ref sa, .ref ba, .int (nI kn), .ref sl, .ref sv, .ref pd, .int (nI pl), .int (nI (q + 1)), .int 0, .int le, .int one, .int two, .int three])), (pd, .inl (ca 0, 80, .inl P))] := hD
      refine lv_aload_n hx hb d_M_order_102 rfl (lv_at hl 2 rfl) ?_
      refine lv_iload_n hx hb d_M_order_103 rfl (lv_at hl 1 rfl) ?_
      refine f_put S cls_M hK hP hD hS 0 rfl 9 (by decide) fl_M_letter rfl rfl (rfl) (rfl) (Nat.le_of_ble_eq_true rfl) d_M_order_104 (fun H locs hP hD hS => ?_)
      have hP : va_P D classes [(o, .inr (4, [.ref sa, .ref ba, .int (nI kn), .ref sl, .ref sv, .ref pd, .int (nI pl), .int (nI (q + 1)), .int 0, .int 120, .int one, .int two, .int three])), (pd, .inl (ca 0, 80, .inl P))] H := hP
      have hD : va_D A [(o, .inr (4, [.ref sa, .ref ba, .int (nI kn), .ref sl, .ref sv, .ref pd, .int (nI pl), .int (nI (q + 1)), .int 0, .int 120, .int one, .int two, .int three])), (pd, .inl (ca 0, 80, .inl P))] := hD
      refine lv_aload_n hx hb d_M_order_107 rfl (lv_at hl 2 rfl) ?_
      refine lv_iload_n hx hb d_M_order_108 rfl (lv_at hl 0 rfl) ?_
      refine lv_if_eq (tgt := 126) hx hb d_M_order_109 (by decide) (fun _ => ?_) (fun q => absurd (by decide) q)
      refine lv_iconst (v := 0) hx hb d_M_order_126 (by decide) ?_
      refine f_put S cls_M hK hP hD hS 0 rfl 10 (by decide) fl_M_one rfl rfl (rfl) (rfl) (Nat.le_of_ble_eq_true rfl) d_M_order_127 (fun H locs hP hD hS => ?_)
      have hP : va_P D classes [(o, .inr (4, [.ref sa, .ref ba, .int (nI kn), .ref sl, .ref sv, .ref pd, .int (nI pl), .int (nI (q + 1)), .int 0, .int 120, .int 0, .int two, .int three])), (pd, .inl (ca 0, 80, .inl P))] H := hP
      have hD : va_D A [(o, .inr (4, [.ref sa, .ref ba, .int (nI kn), .ref sl, .ref sv, .ref pd, .int (nI pl), .int (nI (q + 1)), .int 0, .int 120, .int 0, .int two, .int three])), (pd, .inl (ca 0, 80, .inl P))] := hD
      refine lv_iload_n hx hb d_M_order_130 rfl (lv_at hl 0 rfl) ?_
      refine lv_if_eq (tgt := 167) hx hb d_M_order_131 (by decide) (fun _ => ?_) (fun q => absurd (by decide) q)
      refine lv_iconst (v := 0) hx hb d_M_order_167 (by decide) ?_
      refine lv_istore_n (lv' := [(3, .int 0), (2, .int 0), (1, .int 120), (0, .ref o)]) hx hb d_M_order_168 rfl hl (by decide) rfl (fun ls hl => ?_)
      refine lv_aload_n hx hb d_M_order_169 rfl (lv_at hl 3 rfl) ?_
      refine lv_iload_n hx hb d_M_order_170 rfl (lv_at hl 2 rfl) ?_
      refine lv_bipush (v := 120) hx hb d_M_order_171 (by decide) ?_
      refine lv_icmp_ne (tgt := 180) hx hb d_M_order_173 (by decide) (fun q => absurd (by decide) q) (fun _ => ?_)
      refine lv_iconst (v := 0) hx hb d_M_order_176 (by decide) ?_
      refine lv_goto (tgt := 184) hx hb d_M_order_177 (by decide) ?_
      refine f_put S cls_M hK hP hD hS 0 rfl 11 (by decide) fl_M_two rfl rfl (rfl) (rfl) (Nat.le_of_ble_eq_true rfl) d_M_order_184 (fun H locs hP hD hS => ?_)
      have hP : va_P D classes [(o, .inr (4, [.ref sa, .ref ba, .int (nI kn), .ref sl, .ref sv, .ref pd, .int (nI pl), .int (nI (q + 1)), .int 0, .int 120, .int 0, .int 0, .int three])), (pd, .inl (ca 0, 80, .inl P))] H := hP
      have hD : va_D A [(o, .inr (4, [.ref sa, .ref ba, .int (nI kn), .ref sl, .ref sv, .ref pd, .int (nI pl), .int (nI (q + 1)), .int 0, .int 120, .int 0, .int 0, .int three])), (pd, .inl (ca 0, 80, .inl P))] := hD
      refine lv_iload_n hx hb d_M_order_187 rfl (lv_at hl 2 rfl) ?_
      refine lv_bipush (v := 119) hx hb d_M_order_188 (by decide) ?_
      refine lv_icmp_ne (tgt := 204) hx hb d_M_order_190 (by decide) (fun _ => ?_) (fun q => absurd q (by decide))
      refine lv_iconst (v := 0) hx hb d_M_order_204 (by decide) ?_
      refine lv_istore_n (lv' := [(3, .int 0), (2, .int 0), (1, .int 120), (0, .ref o)]) hx hb d_M_order_205 rfl hl (by decide) rfl (fun ls hl => ?_)
      refine lv_aload_n hx hb d_M_order_206 rfl (lv_at hl 3 rfl) ?_
      refine lv_iload_n hx hb d_M_order_207 rfl (lv_at hl 2 rfl) ?_
      refine lv_bipush (v := 119) hx hb d_M_order_208 (by decide) ?_
      refine lv_icmp_ne (tgt := 220) hx hb d_M_order_210 (by decide) (fun _ => ?_) (fun q => absurd q (by decide))
      refine lv_iconst (v := 0) hx hb d_M_order_220 (by decide) ?_
      refine f_put S cls_M hK hP hD hS 0 rfl 12 (by decide) fl_M_three rfl rfl (rfl) (rfl) (Nat.le_of_ble_eq_true rfl) d_M_order_221 (fun H locs hP hD hS => ?_)
      have hP : va_P D classes [(o, .inr (4, [.ref sa, .ref ba, .int (nI kn), .ref sl, .ref sv, .ref pd, .int (nI pl), .int (nI (q + 1)), .int 0, .int 120, .int 0, .int 0, .int 0])), (pd, .inl (ca 0, 80, .inl P))] H := hP
      have hD : va_D A [(o, .inr (4, [.ref sa, .ref ba, .int (nI kn), .ref sl, .ref sv, .ref pd, .int (nI pl), .int (nI (q + 1)), .int 0, .int 120, .int 0, .int 0, .int 0])), (pd, .inl (ca 0, 80, .inl P))] := hD
      refine lv_iload_n hx hb d_M_order_224 rfl (lv_at hl 2 rfl) ?_
      refine lv_bipush (v := 114) hx hb d_M_order_225 (by decide) ?_
      refine lv_icmp_ne (tgt := 255) hx hb d_M_order_227 (by decide) (fun _ => ?_) (fun q => absurd q (by decide))
      exact hret _ _ _ _ _ d_M_order_255 (by first | (simp only [mo, mo_w, mo_r, mo_c, mo_m, Bool.false_eq_true, hc, ↓reduceIte]; done) | (simp only [mo, mo_w, mo_r, mo_c, mo_m, Bool.false_eq_true, hc, ↓reduceIte]; rfl) | rfl) hP hD hS
    · have hpq : q ≤ pl := hq
      refine lv_istore_n (lv' := [(1, .int (chr P pl q)), (0, .ref o)]) hx hb d_M_order_24 rfl hl (by decide) rfl (fun ls hl => ?_)
      refine lv_iload_n hx hb d_M_order_25 rfl (lv_at hl 0 rfl) ?_
      refine lv_bipush (v := 119) hx hb d_M_order_26 (by decide) ?_
      refine lv_icmp_eq (tgt := 43) hx hb d_M_order_28 (by decide) (fun q => absurd q (h119)) (fun _ => ?_)
      refine lv_iload_n hx hb d_M_order_31 rfl (lv_at hl 0 rfl) ?_
      refine lv_bipush (v := 114) hx hb d_M_order_32 (by decide) ?_
      refine lv_icmp_eq (tgt := 43) hx hb d_M_order_34 (by decide) (fun q => absurd q (h114)) (fun _ => ?_)
      refine lv_iload_n hx hb d_M_order_37 rfl (lv_at hl 0 rfl) ?_
      refine lv_bipush (v := 99) hx hb d_M_order_38 (by decide) ?_
      refine lv_icmp_ne (tgt := 47) hx hb d_M_order_40 (by decide) (fun _ => ?_) (fun q => absurd q (h99))
      refine lv_iconst (v := 0) hx hb d_M_order_47 (by decide) ?_
      refine lv_istore_n (lv' := [(2, .int 0), (1, .int (chr P pl q)), (0, .ref o)]) hx hb d_M_order_48 rfl hl (by decide) rfl (fun ls hl => ?_)
      refine lv_aload_n hx hb d_M_order_49 rfl (lv_at hl 2 rfl) ?_
      refine lv_aload_n hx hb d_M_order_50 rfl (lv_at hl 2 rfl) ?_
      refine f_get S cls_M hK hP 0 rfl 8 (by decide) fl_M_isWrong rfl rfl d_M_order_51 ?_
      refine lv_if_ne (tgt := 73) hx hb d_M_order_54 (by decide) (fun q => absurd (by decide) q) (fun _ => ?_)
      refine lv_iload_n hx hb d_M_order_57 rfl (lv_at hl 0 rfl) ?_
      refine lv_if_ne (tgt := 77) hx hb d_M_order_58 (by decide) (fun q => absurd (by decide) q) (fun _ => ?_)
      refine lv_iload_n hx hb d_M_order_61 rfl (lv_at hl 1 rfl) ?_
      refine lv_bipush (v := 109) hx hb d_M_order_62 (by decide) ?_
      refine lv_icmp_eq (tgt := 77) hx hb d_M_order_64 (by decide) (fun q => absurd q (h109)) (fun _ => ?_)
      refine lv_iload_n hx hb d_M_order_67 rfl (lv_at hl 1 rfl) ?_
      refine lv_bipush (v := 120) hx hb d_M_order_68 (by decide) ?_
      refine lv_icmp_eq (tgt := 77) hx hb d_M_order_70 (by decide) (fun q => absurd q (h120)) (fun _ => ?_)
      refine lv_iconst (v := 1) hx hb d_M_order_73 (by decide) ?_
      refine lv_goto (tgt := 78) hx hb d_M_order_74 (by decide) ?_
      refine f_put S cls_M hK hP hD hS 0 rfl 8 (by decide) fl_M_isWrong rfl rfl (rfl) (rfl) (Nat.le_of_ble_eq_true rfl) d_M_order_78 (fun H locs hP hD hS => ?_)
      have hP : va_P D classes [(o, .inr (4, [.ref sa, .ref ba, .int (nI kn), .ref sl, .ref sv, .ref pd, .int (nI pl), .int (nI q), .int 1, .int le, .int one, .int two, .int three])), (pd, .inl (ca 0, 80, .inl P))] H := hP
      have hD : va_D A [(o, .inr (4, [.ref sa, .ref ba, .int (nI kn), .ref sl, .ref sv, .ref pd, .int (nI pl), .int (nI q), .int 1, .int le, .int one, .int two, .int three])), (pd, .inl (ca 0, 80, .inl P))] := hD
      refine lv_aload_n hx hb d_M_order_81 rfl (lv_at hl 2 rfl) ?_
      refine lv_dup hx hb d_M_order_82 rfl ?_
      refine f_get S cls_M hK hP 0 rfl 7 (by decide) fl_M_place rfl rfl d_M_order_83 ?_
      refine lv_aload_n hx hb d_M_order_86 rfl (lv_at hl 2 rfl) ?_
      refine f_get S cls_M hK hP 0 rfl 8 (by decide) fl_M_isWrong rfl rfl d_M_order_87 ?_
      refine lv_if_eq (tgt := 97) hx hb d_M_order_90 (by decide) (fun q => absurd q (by decide)) (fun _ => ?_)
      refine lv_iconst (v := 0) hx hb d_M_order_93 (by decide) ?_
      refine lv_goto (tgt := 98) hx hb d_M_order_94 (by decide) ?_
      refine lv_iadd hx hb d_M_order_98 ?_
      refine lv_tope (z := nI (q + 0)) (nI_add q 0) ?_
      refine f_put S cls_M hK hP hD hS 0 rfl 7 (by decide) fl_M_place rfl rfl (rfl) (rfl) (Nat.le_of_ble_eq_true rfl) d_M_order_99 (fun H locs hP hD hS => ?_)
      have hP : va_P D classes [(o, .inr (4, [.ref sa, .ref ba, .int (nI kn), .ref sl, .ref sv, .ref pd, .int (nI pl), .int (nI (q + 0)), .int 1, .int le, .int one, .int two, .int three])), (pd, .inl (ca 0, 80, .inl P))] H := hP
      have hD : va_D A [(o, .inr (4, [.ref sa, .ref ba, .int (nI kn), .ref sl, .ref sv, .ref pd, .int (nI pl), .int (nI (q + 0)), .int 1, .int le, .int one, .int two, .int three])), (pd, .inl (ca 0, 80, .inl P))] := hD
      refine lv_aload_n hx hb d_M_order_102 rfl (lv_at hl 2 rfl) ?_
      refine lv_iload_n hx hb d_M_order_103 rfl (lv_at hl 1 rfl) ?_
      refine f_put S cls_M hK hP hD hS 0 rfl 9 (by decide) fl_M_letter rfl rfl (rfl) (rfl) (Nat.le_of_ble_eq_true rfl) d_M_order_104 (fun H locs hP hD hS => ?_)
      have hP : va_P D classes [(o, .inr (4, [.ref sa, .ref ba, .int (nI kn), .ref sl, .ref sv, .ref pd, .int (nI pl), .int (nI (q + 0)), .int 1, .int (chr P pl q), .int one, .int two, .int three])), (pd, .inl (ca 0, 80, .inl P))] H := hP
      have hD : va_D A [(o, .inr (4, [.ref sa, .ref ba, .int (nI kn), .ref sl, .ref sv, .ref pd, .int (nI pl), .int (nI (q + 0)), .int 1, .int (chr P pl q), .int one, .int two, .int three])), (pd, .inl (ca 0, 80, .inl P))] := hD
      refine lv_aload_n hx hb d_M_order_107 rfl (lv_at hl 2 rfl) ?_
      refine lv_iload_n hx hb d_M_order_108 rfl (lv_at hl 0 rfl) ?_
      refine lv_if_eq (tgt := 126) hx hb d_M_order_109 (by decide) (fun _ => ?_) (fun q => absurd (by decide) q)
      refine lv_iconst (v := 0) hx hb d_M_order_126 (by decide) ?_
      refine f_put S cls_M hK hP hD hS 0 rfl 10 (by decide) fl_M_one rfl rfl (rfl) (rfl) (Nat.le_of_ble_eq_true rfl) d_M_order_127 (fun H locs hP hD hS => ?_)
      have hP : va_P D classes [(o, .inr (4, [.ref sa, .ref ba, .int (nI kn), .ref sl, .ref sv, .ref pd, .int (nI pl), .int (nI (q + 0)), .int 1, .int (chr P pl q), .int 0, .int two, .int three])), (pd, .inl (ca 0, 80, .inl P))] H := hP
      have hD : va_D A [(o, .inr (4, [.ref sa, .ref ba, .int (nI kn), .ref sl, .ref sv, .ref pd, .int (nI pl), .int (nI (q + 0)), .int 1, .int (chr P pl q), .int 0, .int two, .int three])), (pd, .inl (ca 0, 80, .inl P))] := hD
      refine lv_iload_n hx hb d_M_order_130 rfl (lv_at hl 0 rfl) ?_
      refine lv_if_eq (tgt := 167) hx hb d_M_order_131 (by decide) (fun _ => ?_) (fun q => absurd (by decide) q)
      refine lv_iconst (v := 0) hx hb d_M_order_167 (by decide) ?_
      refine lv_istore_n (lv' := [(3, .int 0), (2, .int 0), (1, .int (chr P pl q)), (0, .ref o)]) hx hb d_M_order_168 rfl hl (by decide) rfl (fun ls hl => ?_)
      refine lv_aload_n hx hb d_M_order_169 rfl (lv_at hl 3 rfl) ?_
      refine lv_iload_n hx hb d_M_order_170 rfl (lv_at hl 2 rfl) ?_
      refine lv_bipush (v := 120) hx hb d_M_order_171 (by decide) ?_
      refine lv_icmp_ne (tgt := 180) hx hb d_M_order_173 (by decide) (fun _ => ?_) (fun q => absurd q (h120))
      refine lv_aload_n hx hb d_M_order_180 rfl (lv_at hl 3 rfl) ?_
      refine MI.callV (wr := []) S (c_M_number l D ca  o sa ba sl sv pd P kn pl (q + 0) true (chr P pl q) 0 two three (by omega) (hq)) k_M_142 hP hD hS hA hK [0, 1] [] rfl rfl (by decide) (by decide) (by decide) 0 (ci := 4) (fs := [.ref sa, .ref ba, .int (nI kn), .ref sl, .ref sv, .ref pd, .int (nI pl), .int (nI (q + 0)), .int 1, .int (chr P pl q), .int 0, .int two, .int three]) rfl rfl rfl rfl hl.1 ⟨Nat.le_of_ble_eq_true rfl, Nat.le_of_ble_eq_true rfl⟩ ⟨Nat.zero_le _, Nat.zero_le _⟩ (Nat.le_of_ble_eq_true rfl) d_M_order_181 (fun H locs hP hD hS => ?_)
      have hP : va_P D classes [(o, .inr (4, [.ref sa, .ref ba, .int (nI kn), .ref sl, .ref sv, .ref pd, .int (nI pl), .int (nI ((nm P pl ((q + 0), true)).2.1)), .int (b2 (nm P pl ((q + 0), true)).2.2), .int (chr P pl q), .int 0, .int two, .int three])), (pd, .inl (ca 0, 80, .inl P))] H := hP
      have hD : va_D A [(o, .inr (4, [.ref sa, .ref ba, .int (nI kn), .ref sl, .ref sv, .ref pd, .int (nI pl), .int (nI ((nm P pl ((q + 0), true)).2.1)), .int (b2 (nm P pl ((q + 0), true)).2.2), .int (chr P pl q), .int 0, .int two, .int three])), (pd, .inl (ca 0, 80, .inl P))] := hD
      refine f_put S cls_M hK hP hD hS 0 rfl 11 (by decide) fl_M_two rfl rfl (rfl) (rfl) (Nat.le_of_ble_eq_true rfl) d_M_order_184 (fun H locs hP hD hS => ?_)
      have hP : va_P D classes [(o, .inr (4, [.ref sa, .ref ba, .int (nI kn), .ref sl, .ref sv, .ref pd, .int (nI pl), .int (nI ((nm P pl ((q + 0), true)).2.1)), .int (b2 (nm P pl ((q + 0), true)).2.2), .int (chr P pl q), .int 0, .int ((nm P pl ((q + 0), true)).1), .int three])), (pd, .inl (ca 0, 80, .inl P))] H := hP
      have hD : va_D A [(o, .inr (4, [.ref sa, .ref ba, .int (nI kn), .ref sl, .ref sv, .ref pd, .int (nI pl), .int (nI ((nm P pl ((q + 0), true)).2.1)), .int (b2 (nm P pl ((q + 0), true)).2.2), .int (chr P pl q), .int 0, .int ((nm P pl ((q + 0), true)).1), .int three])), (pd, .inl (ca 0, 80, .inl P))] := hD
      refine lv_iload_n hx hb d_M_order_187 rfl (lv_at hl 2 rfl) ?_
      refine lv_bipush (v := 119) hx hb d_M_order_188 (by decide) ?_
      refine lv_icmp_ne (tgt := 204) hx hb d_M_order_190 (by decide) (fun _ => ?_) (fun q => absurd q (h119))
      refine lv_iconst (v := 0) hx hb d_M_order_204 (by decide) ?_
      refine lv_istore_n (lv' := [(3, .int 0), (2, .int 0), (1, .int (chr P pl q)), (0, .ref o)]) hx hb d_M_order_205 rfl hl (by decide) rfl (fun ls hl => ?_)
      refine lv_aload_n hx hb d_M_order_206 rfl (lv_at hl 3 rfl) ?_
      refine lv_iload_n hx hb d_M_order_207 rfl (lv_at hl 2 rfl) ?_
      refine lv_bipush (v := 119) hx hb d_M_order_208 (by decide) ?_
      refine lv_icmp_ne (tgt := 220) hx hb d_M_order_210 (by decide) (fun _ => ?_) (fun q => absurd q (h119))
      refine lv_iconst (v := 0) hx hb d_M_order_220 (by decide) ?_
      refine f_put S cls_M hK hP hD hS 0 rfl 12 (by decide) fl_M_three rfl rfl (rfl) (rfl) (Nat.le_of_ble_eq_true rfl) d_M_order_221 (fun H locs hP hD hS => ?_)
      have hP : va_P D classes [(o, .inr (4, [.ref sa, .ref ba, .int (nI kn), .ref sl, .ref sv, .ref pd, .int (nI pl), .int (nI ((nm P pl ((q + 0), true)).2.1)), .int (b2 (nm P pl ((q + 0), true)).2.2), .int (chr P pl q), .int 0, .int ((nm P pl ((q + 0), true)).1), .int 0])), (pd, .inl (ca 0, 80, .inl P))] H := hP
      have hD : va_D A [(o, .inr (4, [.ref sa, .ref ba, .int (nI kn), .ref sl, .ref sv, .ref pd, .int (nI pl), .int (nI ((nm P pl ((q + 0), true)).2.1)), .int (b2 (nm P pl ((q + 0), true)).2.2), .int (chr P pl q), .int 0, .int ((nm P pl ((q + 0), true)).1), .int 0])), (pd, .inl (ca 0, 80, .inl P))] := hD
      refine lv_iload_n hx hb d_M_order_224 rfl (lv_at hl 2 rfl) ?_
      refine lv_bipush (v := 114) hx hb d_M_order_225 (by decide) ?_
      refine lv_icmp_ne (tgt := 255) hx hb d_M_order_227 (by decide) (fun _ => ?_) (fun q => absurd q (h114))
      exact hret _ _ _ _ _ d_M_order_255 (by first | (simp only [mo, mo_w, mo_r, mo_c, mo_m, Bool.false_eq_true, h119, h114, h99, h109, h120, ↓reduceIte]; done) | (simp only [mo, mo_w, mo_r, mo_c, mo_m, Bool.false_eq_true, h119, h114, h99, h109, h120, ↓reduceIte]; rfl) | rfl) hP hD hS
  refine lv_aload_n hx hb d_M_order_0 rfl (lv_at hl 0 rfl) ?_
  refine f_get S cls_M hK hP 0 rfl 7 (by decide) fl_M_place rfl rfl d_M_order_1 ?_
  refine lv_aload_n hx hb d_M_order_4 rfl (lv_at hl 0 rfl) ?_
  refine f_get S cls_M hK hP 0 rfl 6 (by decide) fl_M_padLength rfl rfl d_M_order_5 ?_
  refine lv_icmp_ge (tgt := 23) hx hb d_M_order_8 (by decide) (fun c_8 => ?_) (fun c_8 => ?_)
  · have e_8 : ¬ q < pl := by have := le_of_nI (by omega) (by omega) c_8; omega
    refine lv_iconst (v := 0) hx hb d_M_order_23 (by decide) ?_
    exact lv_tope (z := chr P pl q) (by simp only [chr, e_8, ↓reduceIte]) main
  · have e_8 : q < pl := nle_lt (by omega) (by omega) c_8
    refine lv_aload_n hx hb d_M_order_11 rfl (lv_at hl 0 rfl) ?_
    refine f_get S cls_M hK hP 0 rfl 5 (by decide) fl_M_pad rfl rfl d_M_order_12 ?_
    refine lv_aload_n hx hb d_M_order_15 rfl (lv_at hl 0 rfl) ?_
    refine f_get S cls_M hK hP 0 rfl 7 (by decide) fl_M_place rfl rfl d_M_order_16 ?_
    refine A_ild S hK hP 1 0 (f := P) rfl rfl (r := q) (by omega) (by decide) rfl d_M_order_19 ?_
    refine lv_goto (tgt := 24) hx hb d_M_order_20 (by decide) ?_
    exact lv_tope (z := chr P pl q) (by simp only [chr, e_8, ↓reduceIte]) main
