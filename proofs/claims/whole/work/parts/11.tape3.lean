theorem cpy_tb {g g2 : Nat → Int32} : va_cpy (tb g2) (tb g) 0 0 2 = tb g2 := funext fun j => by
  unfold va_cpy
  by_cases h : 0 ≤ j ∧ j < 0 + 2
  · rw [if_pos h]; congr 1; omega
  · rw [if_neg h]; unfold tb; rw [if_neg (by omega), if_neg (by omega)]
theorem cpy_td {g g2 : Nat → Int32} {k : Nat} : va_cpy (td k g2) (td k g) 0 0 40 = td k g2 := funext fun j => by
  unfold va_cpy
  by_cases h : 0 ≤ j ∧ j < 0 + 40
  · rw [if_pos h]; congr 1; omega
  · rw [if_neg h]; unfold td; rw [if_neg (by omega), if_neg (by omega)]
set_option maxHeartbeats 4000000 in
set_option maxRecDepth 100000 in
theorem c_T_setFeet (l : Launch) (D : va_G) (ca : Nat → ClassId) (t : Nat → Nat) (g : Nat → Int32) (x : Int32) (hB : BN g): MI l y_T_setFeet b_T_setFeet 3 (some .int) 1 30 D ca [.ref (t 0), .int x] (tw ca t g) ((s_len g x).1) (tw ca t ((s_len g x).2)) := by
  refine MI.mk (ty := .int) rfl rfl (Nat.le_of_ble_eq_true rfl) ?_
  intro p e s m args below meth c Q A S hA hP hD hK
  obtain ⟨hx, hb, hml, hown, hts⟩ := id S
  intro hret ls hl0 hS
  have hl : lv_has ls 3 [(0, .ref (t 0)), (1, .int x)] := hl0
  refine lv_iload_n hx hb d_T_setFeet_0 rfl (lv_at hl 1 rfl) ?_
  refine lv_bipush (v := 100) hx hb d_T_setFeet_1 (by decide) ?_
  refine lv_icmp_lt (tgt := 13) hx hb d_T_setFeet_3 (by decide) (fun c_3 => ?_) (fun c_3 => ?_)
  · refine lv_bipush (v := (-2)) hx hb d_T_setFeet_13 (by decide) ?_
    exact hret _ _ _ _ _ _ d_T_setFeet_15 rfl (by first | (simp only [s_len, c_3, ↓reduceIte]; done) | (simp only [s_len, c_3, ↓reduceIte]; rfl) | rfl) (by first | (simp only [s_len, c_3, ↓reduceIte]; done) | (simp only [s_len, c_3, ↓reduceIte]; rfl) | rfl) hP hD hS
  · refine lv_iload_n hx hb d_T_setFeet_6 rfl (lv_at hl 1 rfl) ?_
    refine lv_sipush (v := 2000) hx hb d_T_setFeet_7 (by decide) ?_
    refine lv_icmp_le (tgt := 16) hx hb d_T_setFeet_10 (by decide) (fun c_10 => ?_) (fun c_10 => ?_)
    · refine lv_aload_n hx hb d_T_setFeet_16 rfl (lv_at hl 0 rfl) ?_
      refine T_ro S (c_T_allBlocks l D ca t g  hB) k_T_58 rfl hP hK rfl rfl hl.1 ⟨Nat.le_of_ble_eq_true rfl, Nat.le_of_ble_eq_true rfl⟩ ⟨Nat.zero_le _, Nat.zero_le _⟩ (Nat.le_of_ble_eq_true rfl) d_T_setFeet_17 ?_
      refine lv_if_gt (tgt := 30) hx hb d_T_setFeet_20 (by decide) (fun c_20 => ?_) (fun c_20 => ?_)
      · refine lv_bipush (v := (-5)) hx hb d_T_setFeet_30 (by decide) ?_
        exact hret _ _ _ _ _ _ d_T_setFeet_32 rfl (by first | (simp only [s_len, c_3, c_10, c_20, ↓reduceIte]; done) | (simp only [s_len, c_3, c_10, c_20, ↓reduceIte]; rfl) | rfl) (by first | (simp only [s_len, c_3, c_10, c_20, ↓reduceIte]; done) | (simp only [s_len, c_3, c_10, c_20, ↓reduceIte]; rfl) | rfl) hP hD hS
      · refine lv_aload_n hx hb d_T_setFeet_23 rfl (lv_at hl 0 rfl) ?_
        refine f_get S cls_T hK hP 0 rfl 4 (by decide) fl_T_splices rfl rfl d_T_setFeet_24 ?_
        refine lv_if_le (tgt := 33) hx hb d_T_setFeet_27 (by decide) (fun c_27 => ?_) (fun c_27 => ?_)
        · refine lv_aload_n hx hb d_T_setFeet_33 rfl (lv_at hl 0 rfl) ?_
          refine f_get S cls_T hK hP 0 rfl 0 (by decide) fl_T_feet rfl rfl d_T_setFeet_34 ?_
          refine lv_istore_n (lv' := [(2, .int (g 0)), (0, .ref (t 0)), (1, .int x)]) hx hb d_T_setFeet_37 rfl hl (by decide) rfl (fun ls hl => ?_)
          refine lv_aload_n hx hb d_T_setFeet_38 rfl (lv_at hl 1 rfl) ?_
          refine lv_iload_n hx hb d_T_setFeet_39 rfl (lv_at hl 2 rfl) ?_
          refine T_put S hK hP hD hS 0 (by decide) fl_T_feet d_T_setFeet_40 (fun H locs hP hD hS => ?_)
          obtain ⟨g1, hg1⟩ : ∃ z : Nat → Int32, z = upd g 0 x := ⟨_, rfl⟩
          rw [← hg1] at hP hD
          refine lv_aload_n hx hb d_T_setFeet_43 rfl (lv_at hl 1 rfl) ?_
          refine lv_aload_n hx hb d_T_setFeet_44 rfl (lv_at hl 1 rfl) ?_
          refine f_get S cls_T hK hP 0 rfl 3 (by decide) fl_T_head rfl rfl d_T_setFeet_45 ?_
          refine lv_aload_n hx hb d_T_setFeet_48 rfl (lv_at hl 1 rfl) ?_
          refine f_get S cls_T hK hP 0 rfl 0 (by decide) fl_T_feet rfl rfl d_T_setFeet_49 ?_
          refine va_mmin hx hb (hml.trans hl.1.symm) hown (hts _ kx_T_62) (hts _ xs_Math_min) (hts _ in_java_lang_Math) (hts _ xc_Math_min) (Nat.le_of_ble_eq_true rfl) (Nat.le_of_ble_eq_true rfl) (Nat.zero_le _) (Nat.zero_le _) d_T_setFeet_52 ?_
          refine lv_tope (z := mn2 (g1 3) (g1 0)) rfl ?_
          refine T_put S hK hP hD hS 3 (by decide) fl_T_head d_T_setFeet_55 (fun H locs hP hD hS => ?_)
          obtain ⟨g2, hg2⟩ : ∃ z : Nat → Int32, z = upd g1 3 (mn2 (g1 3) (g1 0)) := ⟨_, rfl⟩
          rw [← hg2] at hP hD
          refine lv_iload_n hx hb d_T_setFeet_58 rfl (lv_at hl 0 rfl) ?_
          exact hret _ _ _ _ _ _ d_T_setFeet_59 rfl (by subst hg1 hg2; first | (simp only [s_len, c_3, c_10, c_20, c_27, ↓reduceIte]; done) | (simp only [s_len, c_3, c_10, c_20, c_27, ↓reduceIte]; rfl) | rfl) (by subst hg1 hg2; first | (simp only [s_len, c_3, c_10, c_20, c_27, ↓reduceIte]; done) | (simp only [s_len, c_3, c_10, c_20, c_27, ↓reduceIte]; rfl) | rfl) hP hD hS
        · refine lv_bipush (v := (-5)) hx hb d_T_setFeet_30 (by decide) ?_
          exact hret _ _ _ _ _ _ d_T_setFeet_32 rfl (by first | (simp only [s_len, c_3, c_10, c_20, c_27, ↓reduceIte]; done) | (simp only [s_len, c_3, c_10, c_20, c_27, ↓reduceIte]; rfl) | rfl) (by first | (simp only [s_len, c_3, c_10, c_20, c_27, ↓reduceIte]; done) | (simp only [s_len, c_3, c_10, c_20, c_27, ↓reduceIte]; rfl) | rfl) hP hD hS
    · refine lv_bipush (v := (-2)) hx hb d_T_setFeet_13 (by decide) ?_
      exact hret _ _ _ _ _ _ d_T_setFeet_15 rfl (by first | (simp only [s_len, c_3, c_10, ↓reduceIte]; done) | (simp only [s_len, c_3, c_10, ↓reduceIte]; rfl) | rfl) (by first | (simp only [s_len, c_3, c_10, ↓reduceIte]; done) | (simp only [s_len, c_3, c_10, ↓reduceIte]; rfl) | rfl) hP hD hS
set_option maxHeartbeats 4000000 in
set_option maxRecDepth 100000 in
theorem c_T_setGapAndMark (l : Launch) (D : va_G) (ca : Nat → ClassId) (t : Nat → Nat) (g : Nat → Int32) (x y : Int32) (hB : BN g): MI l y_T_setGapAndMark b_T_setGapAndMark 4 (some .int) 3 66 D ca [.ref (t 0), .int x, .int y] (tw ca t g) ((s_tun g x y).1) (tw ca t ((s_tun g x y).2)) := by
  refine MI.mk (ty := .int) rfl rfl (Nat.le_of_ble_eq_true rfl) ?_
  intro p e s m args below meth c Q A S hA hP hD hK
  obtain ⟨hx, hb, hml, hown, hts⟩ := id S
  intro hret ls hl0 hS
  have hl : lv_has ls 4 [(0, .ref (t 0)), (1, .int x), (2, .int y)] := hl0
  refine lv_iload_n hx hb d_T_setGapAndMark_0 rfl (lv_at hl 1 rfl) ?_
  refine lv_iconst (v := 1) hx hb d_T_setGapAndMark_1 (by decide) ?_
  refine lv_icmp_lt (tgt := 22) hx hb d_T_setGapAndMark_2 (by decide) (fun c_2 => ?_) (fun c_2 => ?_)
  · refine lv_bipush (v := (-2)) hx hb d_T_setGapAndMark_22 (by decide) ?_
    exact hret _ _ _ _ _ _ d_T_setGapAndMark_24 rfl (by first | (simp only [s_tun, c_2, ↓reduceIte]; done) | (simp only [s_tun, c_2, ↓reduceIte]; rfl) | rfl) (by first | (simp only [s_tun, c_2, ↓reduceIte]; done) | (simp only [s_tun, c_2, ↓reduceIte]; rfl) | rfl) hP hD hS
  · refine lv_iload_n hx hb d_T_setGapAndMark_5 rfl (lv_at hl 1 rfl) ?_
    refine lv_bipush (v := 99) hx hb d_T_setGapAndMark_6 (by decide) ?_
    refine lv_icmp_gt (tgt := 22) hx hb d_T_setGapAndMark_8 (by decide) (fun c_8 => ?_) (fun c_8 => ?_)
    · refine lv_bipush (v := (-2)) hx hb d_T_setGapAndMark_22 (by decide) ?_
      exact hret _ _ _ _ _ _ d_T_setGapAndMark_24 rfl (by first | (simp only [s_tun, c_2, c_8, ↓reduceIte]; done) | (simp only [s_tun, c_2, c_8, ↓reduceIte]; rfl) | rfl) (by first | (simp only [s_tun, c_2, c_8, ↓reduceIte]; done) | (simp only [s_tun, c_2, c_8, ↓reduceIte]; rfl) | rfl) hP hD hS
    · refine lv_iload_n hx hb d_T_setGapAndMark_11 rfl (lv_at hl 2 rfl) ?_
      refine lv_iconst (v := 1) hx hb d_T_setGapAndMark_12 (by decide) ?_
      refine lv_icmp_lt (tgt := 22) hx hb d_T_setGapAndMark_13 (by decide) (fun c_13 => ?_) (fun c_13 => ?_)
      · refine lv_bipush (v := (-2)) hx hb d_T_setGapAndMark_22 (by decide) ?_
        exact hret _ _ _ _ _ _ d_T_setGapAndMark_24 rfl (by first | (simp only [s_tun, c_2, c_8, c_13, ↓reduceIte]; done) | (simp only [s_tun, c_2, c_8, c_13, ↓reduceIte]; rfl) | rfl) (by first | (simp only [s_tun, c_2, c_8, c_13, ↓reduceIte]; done) | (simp only [s_tun, c_2, c_8, c_13, ↓reduceIte]; rfl) | rfl) hP hD hS
      · refine lv_iload_n hx hb d_T_setGapAndMark_16 rfl (lv_at hl 2 rfl) ?_
        refine lv_bipush (v := 9) hx hb d_T_setGapAndMark_17 (by decide) ?_
        refine lv_icmp_le (tgt := 25) hx hb d_T_setGapAndMark_19 (by decide) (fun c_19 => ?_) (fun c_19 => ?_)
        · refine lv_aload_n hx hb d_T_setGapAndMark_25 rfl (lv_at hl 0 rfl) ?_
          refine T_ro S (c_T_gap l D ca t g  hB) k_T_68 rfl hP hK rfl rfl hl.1 ⟨Nat.le_of_ble_eq_true rfl, Nat.le_of_ble_eq_true rfl⟩ ⟨Nat.zero_le _, Nat.zero_le _⟩ (Nat.le_of_ble_eq_true rfl) d_T_setGapAndMark_26 ?_
          refine lv_iload_n hx hb d_T_setGapAndMark_29 rfl (lv_at hl 1 rfl) ?_
          refine lv_icmp_ge (tgt := 36) hx hb d_T_setGapAndMark_30 (by decide) (fun c_30 => ?_) (fun c_30 => ?_)
          · refine lv_aload_n hx hb d_T_setGapAndMark_36 rfl (lv_at hl 0 rfl) ?_
            refine f_get S cls_T hK hP 0 rfl 1 (by decide) fl_T_leastGap rfl rfl d_T_setGapAndMark_37 ?_
            refine lv_bipush (v := 100) hx hb d_T_setGapAndMark_40 (by decide) ?_
            refine lv_aload_n hx hb d_T_setGapAndMark_42 rfl (lv_at hl 0 rfl) ?_
            refine f_get S cls_T hK hP 0 rfl 2 (by decide) fl_T_mark rfl rfl d_T_setGapAndMark_43 ?_
            refine lv_imul hx hb d_T_setGapAndMark_46 ?_
            refine lv_iadd hx hb d_T_setGapAndMark_47 ?_
            refine lv_istore_n (lv' := [(3, .int ((g 1) + (100 * (g 2)))), (0, .ref (t 0)), (1, .int x), (2, .int y)]) hx hb d_T_setGapAndMark_48 rfl hl (by decide) rfl (fun ls hl => ?_)
            refine lv_aload_n hx hb d_T_setGapAndMark_49 rfl (lv_at hl 1 rfl) ?_
            refine lv_iload_n hx hb d_T_setGapAndMark_50 rfl (lv_at hl 2 rfl) ?_
            refine T_put S hK hP hD hS 1 (by decide) fl_T_leastGap d_T_setGapAndMark_51 (fun H locs hP hD hS => ?_)
            obtain ⟨g1, hg1⟩ : ∃ z : Nat → Int32, z = upd g 1 x := ⟨_, rfl⟩
            rw [← hg1] at hP hD
            refine lv_aload_n hx hb d_T_setGapAndMark_54 rfl (lv_at hl 1 rfl) ?_
            refine lv_iload_n hx hb d_T_setGapAndMark_55 rfl (lv_at hl 3 rfl) ?_
            refine T_put S hK hP hD hS 2 (by decide) fl_T_mark d_T_setGapAndMark_56 (fun H locs hP hD hS => ?_)
            obtain ⟨g2, hg2⟩ : ∃ z : Nat → Int32, z = upd g1 2 y := ⟨_, rfl⟩
            rw [← hg2] at hP hD
            refine lv_iload_n hx hb d_T_setGapAndMark_59 rfl (lv_at hl 0 rfl) ?_
            exact hret _ _ _ _ _ _ d_T_setGapAndMark_60 rfl (by subst hg1 hg2; first | (simp only [s_tun, c_2, c_8, c_13, c_19, c_30, ↓reduceIte]; done) | (simp only [s_tun, c_2, c_8, c_13, c_19, c_30, ↓reduceIte]; rfl) | rfl) (by subst hg1 hg2; first | (simp only [s_tun, c_2, c_8, c_13, c_19, c_30, ↓reduceIte]; done) | (simp only [s_tun, c_2, c_8, c_13, c_19, c_30, ↓reduceIte]; rfl) | rfl) hP hD hS
          · refine lv_bipush (v := (-5)) hx hb d_T_setGapAndMark_33 (by decide) ?_
            exact hret _ _ _ _ _ _ d_T_setGapAndMark_35 rfl (by first | (simp only [s_tun, c_2, c_8, c_13, c_19, c_30, ↓reduceIte]; done) | (simp only [s_tun, c_2, c_8, c_13, c_19, c_30, ↓reduceIte]; rfl) | rfl) (by first | (simp only [s_tun, c_2, c_8, c_13, c_19, c_30, ↓reduceIte]; done) | (simp only [s_tun, c_2, c_8, c_13, c_19, c_30, ↓reduceIte]; rfl) | rfl) hP hD hS
        · refine lv_bipush (v := (-2)) hx hb d_T_setGapAndMark_22 (by decide) ?_
          exact hret _ _ _ _ _ _ d_T_setGapAndMark_24 rfl (by first | (simp only [s_tun, c_2, c_8, c_13, c_19, ↓reduceIte]; done) | (simp only [s_tun, c_2, c_8, c_13, c_19, ↓reduceIte]; rfl) | rfl) (by first | (simp only [s_tun, c_2, c_8, c_13, c_19, ↓reduceIte]; done) | (simp only [s_tun, c_2, c_8, c_13, c_19, ↓reduceIte]; rfl) | rfl) hP hD hS
set_option maxHeartbeats 4000000 in
set_option maxRecDepth 100000 in
theorem c_T_addBlock (l : Launch) (D : va_G) (ca : Nat → ClassId) (t : Nat → Nat) (g : Nat → Int32) (x d u : Int32) (hB : BN g): MI l y_T_addBlock b_T_addBlock 6 (some .int) 3 68 D ca [.ref (t 0), .int x, .int d, .int u] (tw ca t g) ((s_add g x d u).1) (tw ca t ((s_add g x d u).2)) := by
  refine MI.mk (ty := .int) rfl rfl (Nat.le_of_ble_eq_true rfl) ?_
  intro p e s m args below meth c Q A S hA hP hD hK
  obtain ⟨hx, hb, hml, hown, hts⟩ := id S
  intro hret ls hl0 hS
  have hl : lv_has ls 6 [(0, .ref (t 0)), (1, .int x), (2, .int d), (3, .int u)] := hl0
  refine lv_aload_n hx hb d_T_addBlock_0 rfl (lv_at hl 0 rfl) ?_
  refine lv_iload_n hx hb d_T_addBlock_1 rfl (lv_at hl 1 rfl) ?_
  refine T_ro0 S (c_T_isFile l D ca (t 0) x ) k_T_71 rfl hP hK rfl rfl hl.1 ⟨Nat.le_of_ble_eq_true rfl, Nat.le_of_ble_eq_true rfl⟩ ⟨Nat.zero_le _, Nat.zero_le _⟩ (Nat.le_of_ble_eq_true rfl) d_T_addBlock_2 ?_
  refine lv_if_ne (tgt := 10) hx hb d_T_addBlock_5 (by decide) (fun c_5 => ?_) (fun c_5 => ?_)
  · obtain ⟨f, hf, rfl⟩ := isf_of c_5
    have hcl : (nI f).toNatClampNeg = f := nI_clamp (by omega)
    have hn20 := (hB f hf).2
    refine lv_iload_n hx hb d_T_addBlock_10 rfl (lv_at hl 2 rfl) ?_
    refine lv_iconst (v := 1) hx hb d_T_addBlock_11 (by decide) ?_
    refine lv_icmp_lt (tgt := 32) hx hb d_T_addBlock_12 (by decide) (fun c_12 => ?_) (fun c_12 => ?_)
    · refine lv_bipush (v := (-2)) hx hb d_T_addBlock_32 (by decide) ?_
      exact hret _ _ _ _ _ _ d_T_addBlock_34 rfl (by first | (simp only [s_add, c_5, hcl, c_12, ↓reduceIte]; done) | (simp only [s_add, c_5, hcl, c_12, ↓reduceIte]; rfl) | rfl) (by first | (simp only [s_add, c_5, hcl, c_12, ↓reduceIte]; done) | (simp only [s_add, c_5, hcl, c_12, ↓reduceIte]; rfl) | rfl) hP hD hS
    · refine lv_iload_n hx hb d_T_addBlock_15 rfl (lv_at hl 2 rfl) ?_
      refine lv_bipush (v := 99) hx hb d_T_addBlock_16 (by decide) ?_
      refine lv_icmp_gt (tgt := 32) hx hb d_T_addBlock_18 (by decide) (fun c_18 => ?_) (fun c_18 => ?_)
      · refine lv_bipush (v := (-2)) hx hb d_T_addBlock_32 (by decide) ?_
        exact hret _ _ _ _ _ _ d_T_addBlock_34 rfl (by first | (simp only [s_add, c_5, hcl, c_12, c_18, ↓reduceIte]; done) | (simp only [s_add, c_5, hcl, c_12, c_18, ↓reduceIte]; rfl) | rfl) (by first | (simp only [s_add, c_5, hcl, c_12, c_18, ↓reduceIte]; done) | (simp only [s_add, c_5, hcl, c_12, c_18, ↓reduceIte]; rfl) | rfl) hP hD hS
      · refine lv_iload_n hx hb d_T_addBlock_21 rfl (lv_at hl 3 rfl) ?_
        refine lv_if_lt (tgt := 32) hx hb d_T_addBlock_22 (by decide) (fun c_22 => ?_) (fun c_22 => ?_)
        · refine lv_bipush (v := (-2)) hx hb d_T_addBlock_32 (by decide) ?_
          exact hret _ _ _ _ _ _ d_T_addBlock_34 rfl (by first | (simp only [s_add, c_5, hcl, c_12, c_18, c_22, ↓reduceIte]; done) | (simp only [s_add, c_5, hcl, c_12, c_18, c_22, ↓reduceIte]; rfl) | rfl) (by first | (simp only [s_add, c_5, hcl, c_12, c_18, c_22, ↓reduceIte]; done) | (simp only [s_add, c_5, hcl, c_12, c_18, c_22, ↓reduceIte]; rfl) | rfl) hP hD hS
        · refine lv_iload_n hx hb d_T_addBlock_25 rfl (lv_at hl 3 rfl) ?_
          refine lv_sipush (v := 9999) hx hb d_T_addBlock_26 (by decide) ?_
          refine lv_icmp_le (tgt := 35) hx hb d_T_addBlock_29 (by decide) (fun c_29 => ?_) (fun c_29 => ?_)
          · refine lv_aload_n hx hb d_T_addBlock_35 rfl (lv_at hl 0 rfl) ?_
            refine f_get S cls_T hK hP 0 rfl 8 (by decide) fl_T_blocks rfl rfl d_T_addBlock_36 ?_
            refine lv_iload_n hx hb d_T_addBlock_39 rfl (lv_at hl 1 rfl) ?_
            refine T_bl S hK hP hB (f := f) (by omega) rfl d_T_addBlock_40 ?_
            refine lv_bipush (v := 20) hx hb d_T_addBlock_41 (by decide) ?_
            refine lv_icmp_lt (tgt := 49) hx hb d_T_addBlock_43 (by decide) (fun c_43 => ?_) (fun c_43 => ?_)
            · have e_43 : bn g f < 20 := nlt_lt (by omega) (by omega) (show nI (bn g f) < nI 20 from c_43)
              refine lv_aload_n hx hb d_T_addBlock_49 rfl (lv_at hl 0 rfl) ?_
              refine T_ro S (c_T_gap l D ca t g  hB) k_T_68 rfl hP hK rfl rfl hl.1 ⟨Nat.le_of_ble_eq_true rfl, Nat.le_of_ble_eq_true rfl⟩ ⟨Nat.zero_le _, Nat.zero_le _⟩ (Nat.le_of_ble_eq_true rfl) d_T_addBlock_50 ?_
              refine lv_iload_n hx hb d_T_addBlock_53 rfl (lv_at hl 2 rfl) ?_
              refine lv_iconst (v := 2) hx hb d_T_addBlock_54 (by decide) ?_
              refine lv_aload_n hx hb d_T_addBlock_55 rfl (lv_at hl 0 rfl) ?_
              refine f_get S cls_T hK hP 0 rfl 2 (by decide) fl_T_mark rfl rfl d_T_addBlock_56 ?_
              refine lv_imul hx hb d_T_addBlock_59 ?_
              refine lv_iadd hx hb d_T_addBlock_60 ?_
              refine lv_isub hx hb d_T_addBlock_61 ?_
              refine lv_aload_n hx hb d_T_addBlock_62 rfl (lv_at hl 0 rfl) ?_
              refine f_get S cls_T hK hP 0 rfl 1 (by decide) fl_T_leastGap rfl rfl d_T_addBlock_63 ?_
              refine lv_icmp_ge (tgt := 72) hx hb d_T_addBlock_66 (by decide) (fun c_66 => ?_) (fun c_66 => ?_)
              · refine lv_aload_n hx hb d_T_addBlock_72 rfl (lv_at hl 0 rfl) ?_
                refine lv_aload_n hx hb d_T_addBlock_73 rfl (lv_at hl 0 rfl) ?_
                refine lv_iload_n hx hb d_T_addBlock_74 rfl (lv_at hl 1 rfl) ?_
                refine T_ro S (c_T_endInGap l D ca t g f hB (by omega)) k_T_75 rfl hP hK rfl rfl hl.1 ⟨Nat.le_of_ble_eq_true rfl, Nat.le_of_ble_eq_true rfl⟩ ⟨Nat.zero_le _, Nat.zero_le _⟩ (Nat.le_of_ble_eq_true rfl) d_T_addBlock_75 ?_
                refine T_mi S (c_T_travelTo l D ca t g (en g f) ) k_T_79 rfl hP hD hS hA hK rfl rfl hl.1 ⟨Nat.le_of_ble_eq_true rfl, Nat.le_of_ble_eq_true rfl⟩ ⟨Nat.zero_le _, Nat.zero_le _⟩ (Nat.le_of_ble_eq_true rfl) d_T_addBlock_78 (fun H locs hP hD hS => ?_)
                obtain ⟨g1, hg1⟩ : ∃ z : Nat → Int32, z = tv g (en g f) := ⟨_, rfl⟩
                rw [← hg1] at hP hD
                have hB1 : BN g1 := by rw [hg1]; exact BN_tv hB
                have hb1 : bn g1 f = bn g f := by rw [hg1]; exact bn_tv hf
                refine lv_pop hx hb d_T_addBlock_81 rfl ?_
                refine lv_aload_n hx hb d_T_addBlock_82 rfl (lv_at hl 0 rfl) ?_
                refine f_get S cls_T hK hP 0 rfl 8 (by decide) fl_T_blocks rfl rfl d_T_addBlock_83 ?_
                refine lv_iload_n hx hb d_T_addBlock_86 rfl (lv_at hl 1 rfl) ?_
                refine T_bl S hK hP hB1 (f := f) (by omega) rfl d_T_addBlock_87 ?_
                refine lv_tope (z := nI (bn g f)) (by rw [hb1]) ?_
                refine lv_istore (lv' := [(4, .int (nI (bn g f))), (0, .ref (t 0)), (1, .int (nI f)), (2, .int d), (3, .int u)]) hx hb d_T_addBlock_88 hl (by decide) rfl (fun ls hl => ?_)
                refine lv_aload_n hx hb d_T_addBlock_90 rfl (lv_at hl 1 rfl) ?_
                refine lv_iload_n hx hb d_T_addBlock_91 rfl (lv_at hl 2 rfl) ?_
                refine lv_iload hx hb d_T_addBlock_92 (lv_at hl 0 rfl) ?_
                refine T_ro0 S (c_T_rowOf l D ca (t 0) f (bn g f) ) k_T_82 rfl hP hK rfl rfl hl.1 ⟨Nat.le_of_ble_eq_true rfl, Nat.le_of_ble_eq_true rfl⟩ ⟨Nat.zero_le _, Nat.zero_le _⟩ (Nat.le_of_ble_eq_true rfl) d_T_addBlock_94 ?_
                refine lv_istore (lv' := [(5, .int (nI (f * 20 + (bn g f)))), (4, .int (nI (bn g f))), (0, .ref (t 0)), (1, .int (nI f)), (2, .int d), (3, .int u)]) hx hb d_T_addBlock_97 hl (by decide) rfl (fun ls hl => ?_)
                refine lv_aload_n hx hb d_T_addBlock_99 rfl (lv_at hl 2 rfl) ?_
                refine f_get S cls_T hK hP 0 rfl 9 (by decide) fl_T_data rfl rfl d_T_addBlock_100 ?_
                refine lv_iload hx hb d_T_addBlock_103 (lv_at hl 0 rfl) ?_
                refine lv_iload_n hx hb d_T_addBlock_105 rfl (lv_at hl 4 rfl) ?_
                refine T_arst 0 (by decide) S hK hP hD hS (r := f * 20 + (bn g f)) (by omega) rfl d_T_addBlock_106 (fun H locs hP hD hS => ?_)
                obtain ⟨g2, hg2⟩ : ∃ z : Nat → Int32, z = upd g1 (10 + 4 * (f * 20 + (bn g f)) + 0) d := ⟨_, rfl⟩
                rw [← hg2] at hP hD
                refine lv_aload_n hx hb d_T_addBlock_107 rfl (lv_at hl 2 rfl) ?_
                refine f_get S cls_T hK hP 0 rfl 10 (by decide) fl_T_sums rfl rfl d_T_addBlock_108 ?_
                refine lv_iload hx hb d_T_addBlock_111 (lv_at hl 0 rfl) ?_
                refine lv_iload_n hx hb d_T_addBlock_113 rfl (lv_at hl 5 rfl) ?_
                refine T_arst 1 (by decide) S hK hP hD hS (r := f * 20 + (bn g f)) (by omega) rfl d_T_addBlock_114 (fun H locs hP hD hS => ?_)
                obtain ⟨g3, hg3⟩ : ∃ z : Nat → Int32, z = upd g2 (10 + 4 * (f * 20 + (bn g f)) + 1) u := ⟨_, rfl⟩
                rw [← hg3] at hP hD
                refine lv_aload_n hx hb d_T_addBlock_115 rfl (lv_at hl 2 rfl) ?_
                refine f_get S cls_T hK hP 0 rfl 11 (by decide) fl_T_marks rfl rfl d_T_addBlock_116 ?_
                refine lv_iload hx hb d_T_addBlock_119 (lv_at hl 0 rfl) ?_
                refine lv_aload_n hx hb d_T_addBlock_121 rfl (lv_at hl 2 rfl) ?_
                refine f_get S cls_T hK hP 0 rfl 2 (by decide) fl_T_mark rfl rfl d_T_addBlock_122 ?_
                refine T_arst 2 (by decide) S hK hP hD hS (r := f * 20 + (bn g f)) (by omega) rfl d_T_addBlock_125 (fun H locs hP hD hS => ?_)
                obtain ⟨g4, hg4⟩ : ∃ z : Nat → Int32, z = upd g3 (10 + 4 * (f * 20 + (bn g f)) + 2) (g3 2) := ⟨_, rfl⟩
                rw [← hg4] at hP hD
                refine lv_aload_n hx hb d_T_addBlock_126 rfl (lv_at hl 2 rfl) ?_
                refine f_get S cls_T hK hP 0 rfl 12 (by decide) fl_T_timesRead rfl rfl d_T_addBlock_127 ?_
                refine lv_iload hx hb d_T_addBlock_130 (lv_at hl 0 rfl) ?_
                refine lv_iconst (v := 0) hx hb d_T_addBlock_132 (by decide) ?_
                refine T_arst 3 (by decide) S hK hP hD hS (r := f * 20 + (bn g f)) (by omega) rfl d_T_addBlock_133 (fun H locs hP hD hS => ?_)
                obtain ⟨g5, hg5⟩ : ∃ z : Nat → Int32, z = upd g4 (10 + 4 * (f * 20 + (bn g f)) + 3) 0 := ⟨_, rfl⟩
                rw [← hg5] at hP hD
                have hB5 : BN g5 := by rw [hg5, hg4, hg3, hg2]; exact BN_up (by omega) (BN_up (by omega) (BN_up (by omega) (BN_up (by omega) hB1)))
                have hb5 : bn g5 f = bn g f := by rw [hg5, hg4, hg3, hg2, bn_up hf (by omega), bn_up hf (by omega), bn_up hf (by omega), bn_up hf (by omega), hb1]
                refine lv_aload_n hx hb d_T_addBlock_134 rfl (lv_at hl 2 rfl) ?_
                refine f_get S cls_T hK hP 0 rfl 8 (by decide) fl_T_blocks rfl rfl d_T_addBlock_135 ?_
                refine lv_iload_n hx hb d_T_addBlock_138 rfl (lv_at hl 3 rfl) ?_
                refine lv_dup2_11 hx hb d_T_addBlock_139 rfl rfl ?_
                refine T_bl S hK hP hB5 (f := f) (by omega) rfl d_T_addBlock_140 ?_
                refine lv_tope (z := nI (bn g f)) (by rw [hb5]) ?_
                refine lv_iconst (v := 1) hx hb d_T_addBlock_141 (by decide) ?_
                refine lv_iadd hx hb d_T_addBlock_142 ?_
                refine lv_tope (z := nI ((bn g f) + 1)) (nI_add (bn g f) 1) ?_
                refine T_blst S hK hP hD hS (f := f) (by omega) rfl d_T_addBlock_143 (fun H locs hP hD hS => ?_)
                obtain ⟨g6, hg6⟩ : ∃ z : Nat → Int32, z = upd g5 (8 + f) (nI ((bn g f) + 1)) := ⟨_, rfl⟩
                rw [← hg6] at hP hD
                have hB6 : BN g6 := by rw [hg6]; exact BN_set hf (by omega) hB5
                refine lv_aload_n hx hb d_T_addBlock_144 rfl (lv_at hl 2 rfl) ?_
                refine lv_aload_n hx hb d_T_addBlock_145 rfl (lv_at hl 2 rfl) ?_
                refine lv_iload_n hx hb d_T_addBlock_146 rfl (lv_at hl 3 rfl) ?_
                refine T_ro S (c_T_endInGap l D ca t g6 f hB6 (by omega)) k_T_75 rfl hP hK rfl rfl hl.1 ⟨Nat.le_of_ble_eq_true rfl, Nat.le_of_ble_eq_true rfl⟩ ⟨Nat.zero_le _, Nat.zero_le _⟩ (Nat.le_of_ble_eq_true rfl) d_T_addBlock_147 ?_
                refine T_mi S (c_T_travelTo l D ca t g6 (en g6 f) ) k_T_79 rfl hP hD hS hA hK rfl rfl hl.1 ⟨Nat.le_of_ble_eq_true rfl, Nat.le_of_ble_eq_true rfl⟩ ⟨Nat.zero_le _, Nat.zero_le _⟩ (Nat.le_of_ble_eq_true rfl) d_T_addBlock_150 (fun H locs hP hD hS => ?_)
                obtain ⟨g7, hg7⟩ : ∃ z : Nat → Int32, z = tv g6 (en g6 f) := ⟨_, rfl⟩
                rw [← hg7] at hP hD
                refine lv_pop hx hb d_T_addBlock_153 rfl ?_
                refine lv_iload hx hb d_T_addBlock_154 (lv_at hl 1 rfl) ?_
                exact hret _ _ _ _ _ _ d_T_addBlock_156 rfl (by subst hg1 hg2 hg3 hg4 hg5 hg6 hg7; first | (simp only [s_add, c_5, hcl, c_12, c_18, c_22, c_29, c_43, c_66, ↓reduceIte]; done) | (simp only [s_add, c_5, hcl, c_12, c_18, c_22, c_29, c_43, c_66, ↓reduceIte]; rfl) | rfl) (by subst hg1 hg2 hg3 hg4 hg5 hg6 hg7; first | (simp only [s_add, c_5, hcl, c_12, c_18, c_22, c_29, c_43, c_66, ↓reduceIte]; done) | (simp only [s_add, c_5, hcl, c_12, c_18, c_22, c_29, c_43, c_66, ↓reduceIte]; rfl) | rfl) hP hD hS
              · refine lv_bipush (v := (-5)) hx hb d_T_addBlock_69 (by decide) ?_
                exact hret _ _ _ _ _ _ d_T_addBlock_71 rfl (by first | (simp only [s_add, c_5, hcl, c_12, c_18, c_22, c_29, c_43, c_66, ↓reduceIte]; done) | (simp only [s_add, c_5, hcl, c_12, c_18, c_22, c_29, c_43, c_66, ↓reduceIte]; rfl) | rfl) (by first | (simp only [s_add, c_5, hcl, c_12, c_18, c_22, c_29, c_43, c_66, ↓reduceIte]; done) | (simp only [s_add, c_5, hcl, c_12, c_18, c_22, c_29, c_43, c_66, ↓reduceIte]; rfl) | rfl) hP hD hS
            · refine lv_bipush (v := (-4)) hx hb d_T_addBlock_46 (by decide) ?_
              exact hret _ _ _ _ _ _ d_T_addBlock_48 rfl (by first | (simp only [s_add, c_5, hcl, c_12, c_18, c_22, c_29, c_43, ↓reduceIte]; done) | (simp only [s_add, c_5, hcl, c_12, c_18, c_22, c_29, c_43, ↓reduceIte]; rfl) | rfl) (by first | (simp only [s_add, c_5, hcl, c_12, c_18, c_22, c_29, c_43, ↓reduceIte]; done) | (simp only [s_add, c_5, hcl, c_12, c_18, c_22, c_29, c_43, ↓reduceIte]; rfl) | rfl) hP hD hS
          · refine lv_bipush (v := (-2)) hx hb d_T_addBlock_32 (by decide) ?_
            exact hret _ _ _ _ _ _ d_T_addBlock_34 rfl (by first | (simp only [s_add, c_5, hcl, c_12, c_18, c_22, c_29, ↓reduceIte]; done) | (simp only [s_add, c_5, hcl, c_12, c_18, c_22, c_29, ↓reduceIte]; rfl) | rfl) (by first | (simp only [s_add, c_5, hcl, c_12, c_18, c_22, c_29, ↓reduceIte]; done) | (simp only [s_add, c_5, hcl, c_12, c_18, c_22, c_29, ↓reduceIte]; rfl) | rfl) hP hD hS
  · refine lv_iconst (v := (-1)) hx hb d_T_addBlock_8 (by decide) ?_
    exact hret _ _ _ _ _ _ d_T_addBlock_9 rfl (by first | (simp only [s_add, c_5, ↓reduceIte]; done) | (simp only [s_add, c_5, ↓reduceIte]; rfl) | rfl) (by first | (simp only [s_add, c_5, ↓reduceIte]; done) | (simp only [s_add, c_5, ↓reduceIte]; rfl) | rfl) hP hD hS
set_option maxHeartbeats 4000000 in
set_option maxRecDepth 100000 in
theorem c_T_keepBlocks (l : Launch) (D : va_G) (ca : Nat → ClassId) (t : Nat → Nat) (g : Nat → Int32) (x y : Int32) (hB : BN g): MI l y_T_keepBlocks b_T_keepBlocks 4 (some .int) 1 21 D ca [.ref (t 0), .int x, .int y] (tw ca t g) ((s_cut g x y).1) (tw ca t ((s_cut g x y).2)) := by
  refine MI.mk (ty := .int) rfl rfl (Nat.le_of_ble_eq_true rfl) ?_
  intro p e s m args below meth c Q A S hA hP hD hK
  obtain ⟨hx, hb, hml, hown, hts⟩ := id S
  intro hret ls hl0 hS
  have hl : lv_has ls 4 [(0, .ref (t 0)), (1, .int x), (2, .int y)] := hl0
  refine lv_aload_n hx hb d_T_keepBlocks_0 rfl (lv_at hl 0 rfl) ?_
  refine lv_iload_n hx hb d_T_keepBlocks_1 rfl (lv_at hl 1 rfl) ?_
  refine T_ro0 S (c_T_isFile l D ca (t 0) x ) k_T_71 rfl hP hK rfl rfl hl.1 ⟨Nat.le_of_ble_eq_true rfl, Nat.le_of_ble_eq_true rfl⟩ ⟨Nat.zero_le _, Nat.zero_le _⟩ (Nat.le_of_ble_eq_true rfl) d_T_keepBlocks_2 ?_
  refine lv_if_ne (tgt := 10) hx hb d_T_keepBlocks_5 (by decide) (fun c_5 => ?_) (fun c_5 => ?_)
  · obtain ⟨f, hf, rfl⟩ := isf_of c_5
    have hcl : (nI f).toNatClampNeg = f := nI_clamp (by omega)
    refine lv_iload_n hx hb d_T_keepBlocks_10 rfl (lv_at hl 2 rfl) ?_
    refine lv_if_ge (tgt := 17) hx hb d_T_keepBlocks_11 (by decide) (fun c_11 => ?_) (fun c_11 => ?_)
    · refine lv_iload_n hx hb d_T_keepBlocks_17 rfl (lv_at hl 2 rfl) ?_
      refine lv_aload_n hx hb d_T_keepBlocks_18 rfl (lv_at hl 0 rfl) ?_
      refine f_get S cls_T hK hP 0 rfl 8 (by decide) fl_T_blocks rfl rfl d_T_keepBlocks_19 ?_
      refine lv_iload_n hx hb d_T_keepBlocks_22 rfl (lv_at hl 1 rfl) ?_
      refine T_bl S hK hP hB (f := f) (by omega) rfl d_T_keepBlocks_23 ?_
      refine lv_icmp_le (tgt := 30) hx hb d_T_keepBlocks_24 (by decide) (fun c_24 => ?_) (fun c_24 => ?_)
      · refine lv_aload_n hx hb d_T_keepBlocks_30 rfl (lv_at hl 0 rfl) ?_
        refine f_get S cls_T hK hP 0 rfl 8 (by decide) fl_T_blocks rfl rfl d_T_keepBlocks_31 ?_
        refine lv_iload_n hx hb d_T_keepBlocks_34 rfl (lv_at hl 1 rfl) ?_
        refine T_bl S hK hP hB (f := f) (by omega) rfl d_T_keepBlocks_35 ?_
        refine lv_iload_n hx hb d_T_keepBlocks_36 rfl (lv_at hl 2 rfl) ?_
        refine lv_isub hx hb d_T_keepBlocks_37 ?_
        refine lv_istore_n (lv' := [(3, .int ((nI (bn g f)) - y)), (0, .ref (t 0)), (1, .int (nI f)), (2, .int y)]) hx hb d_T_keepBlocks_38 rfl hl (by decide) rfl (fun ls hl => ?_)
        refine lv_aload_n hx hb d_T_keepBlocks_39 rfl (lv_at hl 1 rfl) ?_
        refine f_get S cls_T hK hP 0 rfl 8 (by decide) fl_T_blocks rfl rfl d_T_keepBlocks_40 ?_
        refine lv_iload_n hx hb d_T_keepBlocks_43 rfl (lv_at hl 2 rfl) ?_
        refine lv_iload_n hx hb d_T_keepBlocks_44 rfl (lv_at hl 3 rfl) ?_
        refine T_blst S hK hP hD hS (f := f) (by omega) rfl d_T_keepBlocks_45 (fun H locs hP hD hS => ?_)
        obtain ⟨g1, hg1⟩ : ∃ z : Nat → Int32, z = upd g (8 + f) y := ⟨_, rfl⟩
        rw [← hg1] at hP hD
        refine lv_iload_n hx hb d_T_keepBlocks_46 rfl (lv_at hl 0 rfl) ?_
        exact hret _ _ _ _ _ _ d_T_keepBlocks_47 rfl (by subst hg1; first | (simp only [s_cut, c_5, hcl, c_11, c_24, ↓reduceIte]; done) | (simp only [s_cut, c_5, hcl, c_11, c_24, ↓reduceIte]; rfl) | rfl) (by subst hg1; first | (simp only [s_cut, c_5, hcl, c_11, c_24, ↓reduceIte]; done) | (simp only [s_cut, c_5, hcl, c_11, c_24, ↓reduceIte]; rfl) | rfl) hP hD hS
      · refine lv_bipush (v := (-5)) hx hb d_T_keepBlocks_27 (by decide) ?_
        exact hret _ _ _ _ _ _ d_T_keepBlocks_29 rfl (by first | (simp only [s_cut, c_5, hcl, c_11, c_24, ↓reduceIte]; done) | (simp only [s_cut, c_5, hcl, c_11, c_24, ↓reduceIte]; rfl) | rfl) (by first | (simp only [s_cut, c_5, hcl, c_11, c_24, ↓reduceIte]; done) | (simp only [s_cut, c_5, hcl, c_11, c_24, ↓reduceIte]; rfl) | rfl) hP hD hS
    · refine lv_bipush (v := (-2)) hx hb d_T_keepBlocks_14 (by decide) ?_
      exact hret _ _ _ _ _ _ d_T_keepBlocks_16 rfl (by first | (simp only [s_cut, c_5, hcl, c_11, ↓reduceIte]; done) | (simp only [s_cut, c_5, hcl, c_11, ↓reduceIte]; rfl) | rfl) (by first | (simp only [s_cut, c_5, hcl, c_11, ↓reduceIte]; done) | (simp only [s_cut, c_5, hcl, c_11, ↓reduceIte]; rfl) | rfl) hP hD hS
  · refine lv_iconst (v := (-1)) hx hb d_T_keepBlocks_8 (by decide) ?_
    exact hret _ _ _ _ _ _ d_T_keepBlocks_9 rfl (by first | (simp only [s_cut, c_5, ↓reduceIte]; done) | (simp only [s_cut, c_5, ↓reduceIte]; rfl) | rfl) (by first | (simp only [s_cut, c_5, ↓reduceIte]; done) | (simp only [s_cut, c_5, ↓reduceIte]; rfl) | rfl) hP hD hS
set_option maxHeartbeats 4000000 in
set_option maxRecDepth 100000 in
theorem c_T_moveHead (l : Launch) (D : va_G) (ca : Nat → ClassId) (t : Nat → Nat) (g : Nat → Int32) (x : Int32) : MI l y_T_moveHead b_T_moveHead 2 (some .int) 2 52 D ca [.ref (t 0), .int x] (tw ca t g) ((s_mov g x).1) (tw ca t ((s_mov g x).2)) := by
  refine MI.mk (ty := .int) rfl rfl (Nat.le_of_ble_eq_true rfl) ?_
  intro p e s m args below meth c Q A S hA hP hD hK
  obtain ⟨hx, hb, hml, hown, hts⟩ := id S
  intro hret ls hl0 hS
  have hl : lv_has ls 2 [(0, .ref (t 0)), (1, .int x)] := hl0
  refine lv_iload_n hx hb d_T_moveHead_0 rfl (lv_at hl 1 rfl) ?_
  refine lv_if_lt (tgt := 12) hx hb d_T_moveHead_1 (by decide) (fun c_1 => ?_) (fun c_1 => ?_)
  · refine lv_bipush (v := (-2)) hx hb d_T_moveHead_12 (by decide) ?_
    exact hret _ _ _ _ _ _ d_T_moveHead_14 rfl (by first | (simp only [s_mov, c_1, ↓reduceIte]; done) | (simp only [s_mov, c_1, ↓reduceIte]; rfl) | rfl) (by first | (simp only [s_mov, c_1, ↓reduceIte]; done) | (simp only [s_mov, c_1, ↓reduceIte]; rfl) | rfl) hP hD hS
  · refine lv_iload_n hx hb d_T_moveHead_4 rfl (lv_at hl 1 rfl) ?_
    refine lv_aload_n hx hb d_T_moveHead_5 rfl (lv_at hl 0 rfl) ?_
    refine f_get S cls_T hK hP 0 rfl 0 (by decide) fl_T_feet rfl rfl d_T_moveHead_6 ?_
    refine lv_icmp_le (tgt := 15) hx hb d_T_moveHead_9 (by decide) (fun c_9 => ?_) (fun c_9 => ?_)
    · refine lv_aload_n hx hb d_T_moveHead_15 rfl (lv_at hl 0 rfl) ?_
      refine lv_iload_n hx hb d_T_moveHead_16 rfl (lv_at hl 1 rfl) ?_
      refine T_mi S (c_T_travelTo l D ca t g x ) k_T_79 rfl hP hD hS hA hK rfl rfl hl.1 ⟨Nat.le_of_ble_eq_true rfl, Nat.le_of_ble_eq_true rfl⟩ ⟨Nat.zero_le _, Nat.zero_le _⟩ (Nat.le_of_ble_eq_true rfl) d_T_moveHead_17 (fun H locs hP hD hS => ?_)
      obtain ⟨g1, hg1⟩ : ∃ z : Nat → Int32, z = tv g x := ⟨_, rfl⟩
      rw [← hg1] at hP hD
      exact hret _ _ _ _ _ _ d_T_moveHead_20 rfl (by subst hg1; first | (simp only [s_mov, c_1, c_9, ↓reduceIte]; done) | (simp only [s_mov, c_1, c_9, ↓reduceIte]; rfl) | rfl) (by subst hg1; first | (simp only [s_mov, c_1, c_9, ↓reduceIte]; done) | (simp only [s_mov, c_1, c_9, ↓reduceIte]; rfl) | rfl) hP hD hS
    · refine lv_bipush (v := (-2)) hx hb d_T_moveHead_12 (by decide) ?_
      exact hret _ _ _ _ _ _ d_T_moveHead_14 rfl (by first | (simp only [s_mov, c_1, c_9, ↓reduceIte]; done) | (simp only [s_mov, c_1, c_9, ↓reduceIte]; rfl) | rfl) (by first | (simp only [s_mov, c_1, c_9, ↓reduceIte]; done) | (simp only [s_mov, c_1, c_9, ↓reduceIte]; rfl) | rfl) hP hD hS
set_option maxHeartbeats 4000000 in
set_option maxRecDepth 100000 in
theorem c_T_goToNearerEnd (l : Launch) (D : va_G) (ca : Nat → ClassId) (t : Nat → Nat) (g : Nat → Int32)  : MI l y_T_goToNearerEnd b_T_goToNearerEnd 1 (some .int) 2 52 D ca [.ref (t 0)] (tw ca t g) ((s_rew g).1) (tw ca t ((s_rew g).2)) := by
  refine MI.mk (ty := .int) rfl rfl (Nat.le_of_ble_eq_true rfl) ?_
  intro p e s m args below meth c Q A S hA hP hD hK
  obtain ⟨hx, hb, hml, hown, hts⟩ := id S
  intro hret ls hl0 hS
  have hl : lv_has ls 1 [(0, .ref (t 0))] := hl0
  refine lv_aload_n hx hb d_T_goToNearerEnd_0 rfl (lv_at hl 0 rfl) ?_
  refine lv_aload_n hx hb d_T_goToNearerEnd_1 rfl (lv_at hl 0 rfl) ?_
  refine f_get S cls_T hK hP 0 rfl 3 (by decide) fl_T_head rfl rfl d_T_goToNearerEnd_2 ?_
  refine lv_aload_n hx hb d_T_goToNearerEnd_5 rfl (lv_at hl 0 rfl) ?_
  refine f_get S cls_T hK hP 0 rfl 0 (by decide) fl_T_feet rfl rfl d_T_goToNearerEnd_6 ?_
  refine lv_aload_n hx hb d_T_goToNearerEnd_9 rfl (lv_at hl 0 rfl) ?_
  refine f_get S cls_T hK hP 0 rfl 3 (by decide) fl_T_head rfl rfl d_T_goToNearerEnd_10 ?_
  refine lv_isub hx hb d_T_goToNearerEnd_13 ?_
  refine lv_icmp_gt (tgt := 21) hx hb d_T_goToNearerEnd_14 (by decide) (fun c_14 => ?_) (fun c_14 => ?_)
  · refine lv_aload_n hx hb d_T_goToNearerEnd_21 rfl (lv_at hl 0 rfl) ?_
    refine f_get S cls_T hK hP 0 rfl 0 (by decide) fl_T_feet rfl rfl d_T_goToNearerEnd_22 ?_
    refine T_mi S (c_T_travelTo l D ca t g (g 0) ) k_T_79 rfl hP hD hS hA hK rfl rfl hl.1 ⟨Nat.le_of_ble_eq_true rfl, Nat.le_of_ble_eq_true rfl⟩ ⟨Nat.zero_le _, Nat.zero_le _⟩ (Nat.le_of_ble_eq_true rfl) d_T_goToNearerEnd_25 (fun H locs hP hD hS => ?_)
    obtain ⟨g1, hg1⟩ : ∃ z : Nat → Int32, z = tv g (g 0) := ⟨_, rfl⟩
    rw [← hg1] at hP hD
    refine lv_pop hx hb d_T_goToNearerEnd_28 rfl ?_
    refine lv_aload_n hx hb d_T_goToNearerEnd_29 rfl (lv_at hl 0 rfl) ?_
    refine f_get S cls_T hK hP 0 rfl 3 (by decide) fl_T_head rfl rfl d_T_goToNearerEnd_30 ?_
    exact hret _ _ _ _ _ _ d_T_goToNearerEnd_33 rfl (by subst hg1; first | (simp only [s_rew, c_14, ↓reduceIte]; done) | (simp only [s_rew, c_14, ↓reduceIte]; rfl) | rfl) (by subst hg1; first | (simp only [s_rew, c_14, ↓reduceIte]; done) | (simp only [s_rew, c_14, ↓reduceIte]; rfl) | rfl) hP hD hS
  · refine lv_iconst (v := 0) hx hb d_T_goToNearerEnd_17 (by decide) ?_
    refine lv_goto (tgt := 25) hx hb d_T_goToNearerEnd_18 (by decide) ?_
    refine T_mi S (c_T_travelTo l D ca t g 0 ) k_T_79 rfl hP hD hS hA hK rfl rfl hl.1 ⟨Nat.le_of_ble_eq_true rfl, Nat.le_of_ble_eq_true rfl⟩ ⟨Nat.zero_le _, Nat.zero_le _⟩ (Nat.le_of_ble_eq_true rfl) d_T_goToNearerEnd_25 (fun H locs hP hD hS => ?_)
    obtain ⟨g2, hg2⟩ : ∃ z : Nat → Int32, z = tv g 0 := ⟨_, rfl⟩
    rw [← hg2] at hP hD
    refine lv_pop hx hb d_T_goToNearerEnd_28 rfl ?_
    refine lv_aload_n hx hb d_T_goToNearerEnd_29 rfl (lv_at hl 0 rfl) ?_
    refine f_get S cls_T hK hP 0 rfl 3 (by decide) fl_T_head rfl rfl d_T_goToNearerEnd_30 ?_
    exact hret _ _ _ _ _ _ d_T_goToNearerEnd_33 rfl (by subst hg2; first | (simp only [s_rew, c_14, ↓reduceIte]; done) | (simp only [s_rew, c_14, ↓reduceIte]; rfl) | rfl) (by subst hg2; first | (simp only [s_rew, c_14, ↓reduceIte]; done) | (simp only [s_rew, c_14, ↓reduceIte]; rfl) | rfl) hP hD hS
set_option maxHeartbeats 4000000 in
set_option maxRecDepth 100000 in
theorem c_T_passBlock (l : Launch) (D : va_G) (ca : Nat → ClassId) (t : Nat → Nat) (g : Nat → Int32) (x y z : Int32) (hB : BN g): MI l y_T_passBlock b_T_passBlock 5 (some .int) 4 92 D ca [.ref (t 0), .int x, .int y, .int z] (tw ca t g) ((s_rd g x y z).1) (tw ca t ((s_rd g x y z).2)) := by
  refine MI.mk (ty := .int) rfl rfl (Nat.le_of_ble_eq_true rfl) ?_
  intro p e s m args below meth c Q A S hA hP hD hK
  obtain ⟨hx, hb, hml, hown, hts⟩ := id S
  intro hret ls hl0 hS
  have hl : lv_has ls 5 [(0, .ref (t 0)), (1, .int x), (2, .int y), (3, .int z)] := hl0
  refine lv_aload_n hx hb d_T_passBlock_0 rfl (lv_at hl 0 rfl) ?_
  refine lv_iload_n hx hb d_T_passBlock_1 rfl (lv_at hl 1 rfl) ?_
  refine lv_iload_n hx hb d_T_passBlock_2 rfl (lv_at hl 2 rfl) ?_
  refine T_ro S (c_T_isBlock l D ca t g x y hB) k_T_85 rfl hP hK rfl rfl hl.1 ⟨Nat.le_of_ble_eq_true rfl, Nat.le_of_ble_eq_true rfl⟩ ⟨Nat.zero_le _, Nat.zero_le _⟩ (Nat.le_of_ble_eq_true rfl) d_T_passBlock_3 ?_
  refine lv_if_ne (tgt := 11) hx hb d_T_passBlock_6 (by decide) (fun c_6 => ?_) (fun c_6 => ?_)
  · obtain ⟨f, b, hf, hbn, rfl, rfl⟩ := ibk_of c_6 hB
    have hcl : (nI f).toNatClampNeg = f := nI_clamp (by omega)
    have hn20 := (hB f hf).2
    have hcb : (nI b).toNatClampNeg = b := nI_clamp (by omega)
    refine lv_iload_n hx hb d_T_passBlock_11 rfl (lv_at hl 3 rfl) ?_
    refine lv_if_eq (tgt := 23) hx hb d_T_passBlock_12 (by decide) (fun c_12 => ?_) (fun c_12 => ?_)
    · subst c_12
      refine lv_aload_n hx hb d_T_passBlock_23 rfl (lv_at hl 0 rfl) ?_
      refine lv_iload_n hx hb d_T_passBlock_24 rfl (lv_at hl 1 rfl) ?_
      refine lv_iload_n hx hb d_T_passBlock_25 rfl (lv_at hl 2 rfl) ?_
      refine T_ro0 S (c_T_rowOf l D ca (t 0) f b ) k_T_82 rfl hP hK rfl rfl hl.1 ⟨Nat.le_of_ble_eq_true rfl, Nat.le_of_ble_eq_true rfl⟩ ⟨Nat.zero_le _, Nat.zero_le _⟩ (Nat.le_of_ble_eq_true rfl) d_T_passBlock_26 ?_
      refine lv_istore (lv' := [(4, .int (nI (f * 20 + b))), (0, .ref (t 0)), (1, .int (nI f)), (2, .int (nI b)), (3, .int 0)]) hx hb d_T_passBlock_29 hl (by decide) rfl (fun ls hl => ?_)
      refine lv_aload_n hx hb d_T_passBlock_31 rfl (lv_at hl 1 rfl) ?_
      refine lv_aload_n hx hb d_T_passBlock_32 rfl (lv_at hl 1 rfl) ?_
      refine lv_iload_n hx hb d_T_passBlock_33 rfl (lv_at hl 2 rfl) ?_
      refine lv_iload_n hx hb d_T_passBlock_34 rfl (lv_at hl 3 rfl) ?_
      refine lv_iload_n hx hb d_T_passBlock_35 rfl (lv_at hl 4 rfl) ?_
      refine T_ro S (c_T_startOfReading l D ca t g f b 0 (by omega) (by omega) (by omega)) k_T_89 rfl hP hK rfl rfl hl.1 ⟨Nat.le_of_ble_eq_true rfl, Nat.le_of_ble_eq_true rfl⟩ ⟨Nat.zero_le _, Nat.zero_le _⟩ (Nat.le_of_ble_eq_true rfl) d_T_passBlock_36 ?_
      refine T_mi S (c_T_travelTo l D ca t g (sr g f b 0) ) k_T_79 rfl hP hD hS hA hK rfl rfl hl.1 ⟨Nat.le_of_ble_eq_true rfl, Nat.le_of_ble_eq_true rfl⟩ ⟨Nat.zero_le _, Nat.zero_le _⟩ (Nat.le_of_ble_eq_true rfl) d_T_passBlock_39 (fun H locs hP hD hS => ?_)
      obtain ⟨g1, hg1⟩ : ∃ z : Nat → Int32, z = tv g (sr g f b 0) := ⟨_, rfl⟩
      rw [← hg1] at hP hD
      refine lv_pop hx hb d_T_passBlock_42 rfl ?_
      refine lv_aload_n hx hb d_T_passBlock_43 rfl (lv_at hl 1 rfl) ?_
      refine lv_aload_n hx hb d_T_passBlock_44 rfl (lv_at hl 1 rfl) ?_
      refine lv_iload_n hx hb d_T_passBlock_45 rfl (lv_at hl 2 rfl) ?_
      refine lv_iload_n hx hb d_T_passBlock_46 rfl (lv_at hl 3 rfl) ?_
      refine lv_iconst (v := 1) hx hb d_T_passBlock_47 (by decide) ?_
      refine lv_iload_n hx hb d_T_passBlock_48 rfl (lv_at hl 4 rfl) ?_
      refine lv_isub hx hb d_T_passBlock_49 ?_
      refine lv_tope (z := 1) (by decide) ?_
      refine T_ro S (c_T_startOfReading l D ca t g1 f b 1 (by omega) (by omega) (by omega)) k_T_89 rfl hP hK rfl rfl hl.1 ⟨Nat.le_of_ble_eq_true rfl, Nat.le_of_ble_eq_true rfl⟩ ⟨Nat.zero_le _, Nat.zero_le _⟩ (Nat.le_of_ble_eq_true rfl) d_T_passBlock_50 ?_
      refine T_mi S (c_T_travelTo l D ca t g1 (sr g1 f b 1) ) k_T_79 rfl hP hD hS hA hK rfl rfl hl.1 ⟨Nat.le_of_ble_eq_true rfl, Nat.le_of_ble_eq_true rfl⟩ ⟨Nat.zero_le _, Nat.zero_le _⟩ (Nat.le_of_ble_eq_true rfl) d_T_passBlock_53 (fun H locs hP hD hS => ?_)
      obtain ⟨g2, hg2⟩ : ∃ z : Nat → Int32, z = tv g1 (sr g1 f b 1) := ⟨_, rfl⟩
      rw [← hg2] at hP hD
      refine lv_pop hx hb d_T_passBlock_56 rfl ?_
      refine lv_aload_n hx hb d_T_passBlock_57 rfl (lv_at hl 1 rfl) ?_
      refine f_get S cls_T hK hP 0 rfl 12 (by decide) fl_T_timesRead rfl rfl d_T_passBlock_58 ?_
      refine lv_iload hx hb d_T_passBlock_61 (lv_at hl 0 rfl) ?_
      refine lv_dup2_11 hx hb d_T_passBlock_63 rfl rfl ?_
      refine T_ar 3 (by decide) S hK hP (r := f * 20 + b) (by omega) rfl d_T_passBlock_64 ?_
      refine lv_iconst (v := 1) hx hb d_T_passBlock_65 (by decide) ?_
      refine lv_iadd hx hb d_T_passBlock_66 ?_
      refine T_arst 3 (by decide) S hK hP hD hS (r := f * 20 + b) (by omega) rfl d_T_passBlock_67 (fun H locs hP hD hS => ?_)
      obtain ⟨g3, hg3⟩ : ∃ z : Nat → Int32, z = upd g2 (10 + 4 * (f * 20 + b) + 3) ((g2 (10 + 4 * (f * 20 + b) + 3)) + 1) := ⟨_, rfl⟩
      rw [← hg3] at hP hD
      refine lv_aload_n hx hb d_T_passBlock_68 rfl (lv_at hl 1 rfl) ?_
      refine lv_dup hx hb d_T_passBlock_69 rfl ?_
      refine f_get S cls_T hK hP 0 rfl 7 (by decide) fl_T_blocksRead rfl rfl d_T_passBlock_70 ?_
      refine lv_iconst (v := 1) hx hb d_T_passBlock_73 (by decide) ?_
      refine lv_iadd hx hb d_T_passBlock_74 ?_
      refine T_put S hK hP hD hS 7 (by decide) fl_T_blocksRead d_T_passBlock_75 (fun H locs hP hD hS => ?_)
      obtain ⟨g4, hg4⟩ : ∃ z : Nat → Int32, z = upd g3 7 ((g3 7) + 1) := ⟨_, rfl⟩
      rw [← hg4] at hP hD
      refine lv_aload_n hx hb d_T_passBlock_78 rfl (lv_at hl 1 rfl) ?_
      refine f_get S cls_T hK hP 0 rfl 10 (by decide) fl_T_sums rfl rfl d_T_passBlock_79 ?_
      refine lv_iload hx hb d_T_passBlock_82 (lv_at hl 0 rfl) ?_
      refine T_ar 1 (by decide) S hK hP (r := f * 20 + b) (by omega) rfl d_T_passBlock_84 ?_
      refine lv_iload_n hx hb d_T_passBlock_85 rfl (lv_at hl 3 rfl) ?_
      refine lv_iadd hx hb d_T_passBlock_86 ?_
      refine lv_iload_n hx hb d_T_passBlock_87 rfl (lv_at hl 4 rfl) ?_
      refine lv_iadd hx hb d_T_passBlock_88 ?_
      refine lv_bipush (v := 10) hx hb d_T_passBlock_89 (by decide) ?_
      refine lv_irem hx hb d_T_passBlock_91 (by decide) ?_
      exact hret _ _ _ _ _ _ d_T_passBlock_92 rfl (by subst hg1 hg2 hg3 hg4; first | (simp only [s_rd, c_6, hcl, hcb, ↓reduceIte]; done) | (simp only [s_rd, c_6, hcl, hcb, ↓reduceIte]; rfl) | rfl) (by subst hg1 hg2 hg3 hg4; first | (simp only [s_rd, c_6, hcl, hcb, ↓reduceIte]; done) | (simp only [s_rd, c_6, hcl, hcb, ↓reduceIte]; rfl) | rfl) hP hD hS
    · refine lv_iload_n hx hb d_T_passBlock_15 rfl (lv_at hl 3 rfl) ?_
      refine lv_iconst (v := 1) hx hb d_T_passBlock_16 (by decide) ?_
      refine lv_icmp_eq (tgt := 23) hx hb d_T_passBlock_17 (by decide) (fun c_17 => ?_) (fun c_17 => ?_)
      · subst c_17
        refine lv_aload_n hx hb d_T_passBlock_23 rfl (lv_at hl 0 rfl) ?_
        refine lv_iload_n hx hb d_T_passBlock_24 rfl (lv_at hl 1 rfl) ?_
        refine lv_iload_n hx hb d_T_passBlock_25 rfl (lv_at hl 2 rfl) ?_
        refine T_ro0 S (c_T_rowOf l D ca (t 0) f b ) k_T_82 rfl hP hK rfl rfl hl.1 ⟨Nat.le_of_ble_eq_true rfl, Nat.le_of_ble_eq_true rfl⟩ ⟨Nat.zero_le _, Nat.zero_le _⟩ (Nat.le_of_ble_eq_true rfl) d_T_passBlock_26 ?_
        refine lv_istore (lv' := [(4, .int (nI (f * 20 + b))), (0, .ref (t 0)), (1, .int (nI f)), (2, .int (nI b)), (3, .int 1)]) hx hb d_T_passBlock_29 hl (by decide) rfl (fun ls hl => ?_)
        refine lv_aload_n hx hb d_T_passBlock_31 rfl (lv_at hl 1 rfl) ?_
        refine lv_aload_n hx hb d_T_passBlock_32 rfl (lv_at hl 1 rfl) ?_
        refine lv_iload_n hx hb d_T_passBlock_33 rfl (lv_at hl 2 rfl) ?_
        refine lv_iload_n hx hb d_T_passBlock_34 rfl (lv_at hl 3 rfl) ?_
        refine lv_iload_n hx hb d_T_passBlock_35 rfl (lv_at hl 4 rfl) ?_
        refine T_ro S (c_T_startOfReading l D ca t g f b 1 (by omega) (by omega) (by omega)) k_T_89 rfl hP hK rfl rfl hl.1 ⟨Nat.le_of_ble_eq_true rfl, Nat.le_of_ble_eq_true rfl⟩ ⟨Nat.zero_le _, Nat.zero_le _⟩ (Nat.le_of_ble_eq_true rfl) d_T_passBlock_36 ?_
        refine T_mi S (c_T_travelTo l D ca t g (sr g f b 1) ) k_T_79 rfl hP hD hS hA hK rfl rfl hl.1 ⟨Nat.le_of_ble_eq_true rfl, Nat.le_of_ble_eq_true rfl⟩ ⟨Nat.zero_le _, Nat.zero_le _⟩ (Nat.le_of_ble_eq_true rfl) d_T_passBlock_39 (fun H locs hP hD hS => ?_)
        obtain ⟨g5, hg5⟩ : ∃ z : Nat → Int32, z = tv g (sr g f b 1) := ⟨_, rfl⟩
        rw [← hg5] at hP hD
        refine lv_pop hx hb d_T_passBlock_42 rfl ?_
        refine lv_aload_n hx hb d_T_passBlock_43 rfl (lv_at hl 1 rfl) ?_
        refine lv_aload_n hx hb d_T_passBlock_44 rfl (lv_at hl 1 rfl) ?_
        refine lv_iload_n hx hb d_T_passBlock_45 rfl (lv_at hl 2 rfl) ?_
        refine lv_iload_n hx hb d_T_passBlock_46 rfl (lv_at hl 3 rfl) ?_
        refine lv_iconst (v := 1) hx hb d_T_passBlock_47 (by decide) ?_
        refine lv_iload_n hx hb d_T_passBlock_48 rfl (lv_at hl 4 rfl) ?_
        refine lv_isub hx hb d_T_passBlock_49 ?_
        refine lv_tope (z := 0) (by decide) ?_
        refine T_ro S (c_T_startOfReading l D ca t g5 f b 0 (by omega) (by omega) (by omega)) k_T_89 rfl hP hK rfl rfl hl.1 ⟨Nat.le_of_ble_eq_true rfl, Nat.le_of_ble_eq_true rfl⟩ ⟨Nat.zero_le _, Nat.zero_le _⟩ (Nat.le_of_ble_eq_true rfl) d_T_passBlock_50 ?_
        refine T_mi S (c_T_travelTo l D ca t g5 (sr g5 f b 0) ) k_T_79 rfl hP hD hS hA hK rfl rfl hl.1 ⟨Nat.le_of_ble_eq_true rfl, Nat.le_of_ble_eq_true rfl⟩ ⟨Nat.zero_le _, Nat.zero_le _⟩ (Nat.le_of_ble_eq_true rfl) d_T_passBlock_53 (fun H locs hP hD hS => ?_)
        obtain ⟨g6, hg6⟩ : ∃ z : Nat → Int32, z = tv g5 (sr g5 f b 0) := ⟨_, rfl⟩
        rw [← hg6] at hP hD
        refine lv_pop hx hb d_T_passBlock_56 rfl ?_
        refine lv_aload_n hx hb d_T_passBlock_57 rfl (lv_at hl 1 rfl) ?_
        refine f_get S cls_T hK hP 0 rfl 12 (by decide) fl_T_timesRead rfl rfl d_T_passBlock_58 ?_
        refine lv_iload hx hb d_T_passBlock_61 (lv_at hl 0 rfl) ?_
        refine lv_dup2_11 hx hb d_T_passBlock_63 rfl rfl ?_
        refine T_ar 3 (by decide) S hK hP (r := f * 20 + b) (by omega) rfl d_T_passBlock_64 ?_
        refine lv_iconst (v := 1) hx hb d_T_passBlock_65 (by decide) ?_
        refine lv_iadd hx hb d_T_passBlock_66 ?_
        refine T_arst 3 (by decide) S hK hP hD hS (r := f * 20 + b) (by omega) rfl d_T_passBlock_67 (fun H locs hP hD hS => ?_)
        obtain ⟨g7, hg7⟩ : ∃ z : Nat → Int32, z = upd g6 (10 + 4 * (f * 20 + b) + 3) ((g6 (10 + 4 * (f * 20 + b) + 3)) + 1) := ⟨_, rfl⟩
        rw [← hg7] at hP hD
        refine lv_aload_n hx hb d_T_passBlock_68 rfl (lv_at hl 1 rfl) ?_
        refine lv_dup hx hb d_T_passBlock_69 rfl ?_
        refine f_get S cls_T hK hP 0 rfl 7 (by decide) fl_T_blocksRead rfl rfl d_T_passBlock_70 ?_
        refine lv_iconst (v := 1) hx hb d_T_passBlock_73 (by decide) ?_
        refine lv_iadd hx hb d_T_passBlock_74 ?_
        refine T_put S hK hP hD hS 7 (by decide) fl_T_blocksRead d_T_passBlock_75 (fun H locs hP hD hS => ?_)
        obtain ⟨g8, hg8⟩ : ∃ z : Nat → Int32, z = upd g7 7 ((g7 7) + 1) := ⟨_, rfl⟩
        rw [← hg8] at hP hD
        refine lv_aload_n hx hb d_T_passBlock_78 rfl (lv_at hl 1 rfl) ?_
        refine f_get S cls_T hK hP 0 rfl 10 (by decide) fl_T_sums rfl rfl d_T_passBlock_79 ?_
        refine lv_iload hx hb d_T_passBlock_82 (lv_at hl 0 rfl) ?_
        refine T_ar 1 (by decide) S hK hP (r := f * 20 + b) (by omega) rfl d_T_passBlock_84 ?_
        refine lv_iload_n hx hb d_T_passBlock_85 rfl (lv_at hl 3 rfl) ?_
        refine lv_iadd hx hb d_T_passBlock_86 ?_
        refine lv_iload_n hx hb d_T_passBlock_87 rfl (lv_at hl 4 rfl) ?_
        refine lv_iadd hx hb d_T_passBlock_88 ?_
        refine lv_bipush (v := 10) hx hb d_T_passBlock_89 (by decide) ?_
        refine lv_irem hx hb d_T_passBlock_91 (by decide) ?_
        exact hret _ _ _ _ _ _ d_T_passBlock_92 rfl (by subst hg5 hg6 hg7 hg8; first | (simp only [s_rd, c_6, hcl, hcb, c_12, ↓reduceIte]; done) | (simp only [s_rd, c_6, hcl, hcb, c_12, ↓reduceIte]; rfl) | rfl) (by subst hg5 hg6 hg7 hg8; first | (simp only [s_rd, c_6, hcl, hcb, c_12, ↓reduceIte]; done) | (simp only [s_rd, c_6, hcl, hcb, c_12, ↓reduceIte]; rfl) | rfl) hP hD hS
      · refine lv_bipush (v := (-2)) hx hb d_T_passBlock_20 (by decide) ?_
        exact hret _ _ _ _ _ _ d_T_passBlock_22 rfl (by first | (simp only [s_rd, c_6, hcl, hcb, c_12, c_17, ↓reduceIte]; done) | (simp only [s_rd, c_6, hcl, hcb, c_12, c_17, ↓reduceIte]; rfl) | rfl) (by first | (simp only [s_rd, c_6, hcl, hcb, c_12, c_17, ↓reduceIte]; done) | (simp only [s_rd, c_6, hcl, hcb, c_12, c_17, ↓reduceIte]; rfl) | rfl) hP hD hS
  · refine lv_iconst (v := (-1)) hx hb d_T_passBlock_9 (by decide) ?_
    exact hret _ _ _ _ _ _ d_T_passBlock_10 rfl (by first | (simp only [s_rd, c_6, ↓reduceIte]; done) | (simp only [s_rd, c_6, ↓reduceIte]; rfl) | rfl) (by first | (simp only [s_rd, c_6, ↓reduceIte]; done) | (simp only [s_rd, c_6, ↓reduceIte]; rfl) | rfl) hP hD hS
set_option maxHeartbeats 4000000 in
set_option maxRecDepth 100000 in
theorem c_T_takeOut (l : Launch) (D : va_G) (ca : Nat → ClassId) (t : Nat → Nat) (g : Nat → Int32) (x y : Int32) (hB : BN g): MI l y_T_takeOut b_T_takeOut 7 (some .int) 4 94 D ca [.ref (t 0), .int x, .int y] (tw ca t g) ((s_spl g x y).1) (tw ca t ((s_spl g x y).2)) := by
  refine MI.mk (ty := .int) rfl rfl (Nat.le_of_ble_eq_true rfl) ?_
  intro p e s m args below meth c Q A S hA hP hD hK
  obtain ⟨hx, hb, hml, hown, hts⟩ := id S
  intro hret ls hl0 hS
  have hl : lv_has ls 7 [(0, .ref (t 0)), (1, .int x), (2, .int y)] := hl0
  refine lv_iload_n hx hb d_T_takeOut_0 rfl (lv_at hl 1 rfl) ?_
  refine lv_if_lt (tgt := 23) hx hb d_T_takeOut_1 (by decide) (fun c_1 => ?_) (fun c_1 => ?_)
  · refine lv_bipush (v := (-2)) hx hb d_T_takeOut_23 (by decide) ?_
    exact hret _ _ _ _ _ _ d_T_takeOut_25 rfl (by first | (simp only [s_spl, s_s2, s_k1, s_k2, Bool.false_eq_true, or_self, or_true, true_or, or_false, false_or, c_1, ↓reduceIte]; done) | (simp only [s_spl, s_s2, s_k1, s_k2, Bool.false_eq_true, or_self, or_true, true_or, or_false, false_or, c_1, ↓reduceIte]; rfl) | rfl) (by first | (simp only [s_spl, s_s2, s_k1, s_k2, Bool.false_eq_true, or_self, or_true, true_or, or_false, false_or, c_1, ↓reduceIte]; done) | (simp only [s_spl, s_s2, s_k1, s_k2, Bool.false_eq_true, or_self, or_true, true_or, or_false, false_or, c_1, ↓reduceIte]; rfl) | rfl) hP hD hS
  · refine lv_iload_n hx hb d_T_takeOut_4 rfl (lv_at hl 1 rfl) ?_
    refine lv_aload_n hx hb d_T_takeOut_5 rfl (lv_at hl 0 rfl) ?_
    refine f_get S cls_T hK hP 0 rfl 0 (by decide) fl_T_feet rfl rfl d_T_takeOut_6 ?_
    refine lv_icmp_ge (tgt := 23) hx hb d_T_takeOut_9 (by decide) (fun c_9 => ?_) (fun c_9 => ?_)
    · refine lv_bipush (v := (-2)) hx hb d_T_takeOut_23 (by decide) ?_
      exact hret _ _ _ _ _ _ d_T_takeOut_25 rfl (by first | (simp only [s_spl, s_s2, s_k1, s_k2, Bool.false_eq_true, or_self, or_true, true_or, or_false, false_or, c_1, c_9, ↓reduceIte]; done) | (simp only [s_spl, s_s2, s_k1, s_k2, Bool.false_eq_true, or_self, or_true, true_or, or_false, false_or, c_1, c_9, ↓reduceIte]; rfl) | rfl) (by first | (simp only [s_spl, s_s2, s_k1, s_k2, Bool.false_eq_true, or_self, or_true, true_or, or_false, false_or, c_1, c_9, ↓reduceIte]; done) | (simp only [s_spl, s_s2, s_k1, s_k2, Bool.false_eq_true, or_self, or_true, true_or, or_false, false_or, c_1, c_9, ↓reduceIte]; rfl) | rfl) hP hD hS
    · refine lv_iload_n hx hb d_T_takeOut_12 rfl (lv_at hl 2 rfl) ?_
      refine lv_iconst (v := 1) hx hb d_T_takeOut_13 (by decide) ?_
      refine lv_icmp_lt (tgt := 23) hx hb d_T_takeOut_14 (by decide) (fun c_14 => ?_) (fun c_14 => ?_)
      · refine lv_bipush (v := (-2)) hx hb d_T_takeOut_23 (by decide) ?_
        exact hret _ _ _ _ _ _ d_T_takeOut_25 rfl (by first | (simp only [s_spl, s_s2, s_k1, s_k2, Bool.false_eq_true, or_self, or_true, true_or, or_false, false_or, c_1, c_9, c_14, ↓reduceIte]; done) | (simp only [s_spl, s_s2, s_k1, s_k2, Bool.false_eq_true, or_self, or_true, true_or, or_false, false_or, c_1, c_9, c_14, ↓reduceIte]; rfl) | rfl) (by first | (simp only [s_spl, s_s2, s_k1, s_k2, Bool.false_eq_true, or_self, or_true, true_or, or_false, false_or, c_1, c_9, c_14, ↓reduceIte]; done) | (simp only [s_spl, s_s2, s_k1, s_k2, Bool.false_eq_true, or_self, or_true, true_or, or_false, false_or, c_1, c_9, c_14, ↓reduceIte]; rfl) | rfl) hP hD hS
      · refine lv_iload_n hx hb d_T_takeOut_17 rfl (lv_at hl 2 rfl) ?_
        refine lv_bipush (v := 50) hx hb d_T_takeOut_18 (by decide) ?_
        refine lv_icmp_le (tgt := 26) hx hb d_T_takeOut_20 (by decide) (fun c_20 => ?_) (fun c_20 => ?_)
        · refine lv_iload_n hx hb d_T_takeOut_26 rfl (lv_at hl 2 rfl) ?_
          refine lv_iconst (v := 1) hx hb d_T_takeOut_27 (by decide) ?_
          refine lv_iadd hx hb d_T_takeOut_28 ?_
          refine lv_istore_n (lv' := [(3, .int (y + 1)), (0, .ref (t 0)), (1, .int x), (2, .int y)]) hx hb d_T_takeOut_29 rfl hl (by decide) rfl (fun ls hl => ?_)
          refine lv_aload_n hx hb d_T_takeOut_30 rfl (lv_at hl 1 rfl) ?_
          refine lv_iload_n hx hb d_T_takeOut_31 rfl (lv_at hl 2 rfl) ?_
          refine lv_iload_n hx hb d_T_takeOut_32 rfl (lv_at hl 2 rfl) ?_
          refine lv_iload_n hx hb d_T_takeOut_33 rfl (lv_at hl 0 rfl) ?_
          refine lv_iadd hx hb d_T_takeOut_34 ?_
          refine T_ro S (c_T_rowWithData l D ca t g x (x + (y + 1)) hB) k_T_93 rfl hP hK rfl rfl hl.1 ⟨Nat.le_of_ble_eq_true rfl, Nat.le_of_ble_eq_true rfl⟩ ⟨Nat.zero_le _, Nat.zero_le _⟩ (Nat.le_of_ble_eq_true rfl) d_T_takeOut_35 ?_
          obtain ⟨v, hv⟩ : ∃ z, z = rwd g x (x + (y + 1)) := ⟨_, rfl⟩
          refine lv_tope (z := v) (hv.symm) ?_
          refine lv_istore (lv' := [(4, .int v), (3, .int (y + 1)), (0, .ref (t 0)), (1, .int x), (2, .int y)]) hx hb d_T_takeOut_38 hl (by decide) rfl (fun ls hl => ?_)
          refine lv_iload hx hb d_T_takeOut_40 (lv_at hl 0 rfl) ?_
          refine lv_if_lt (tgt := 62) hx hb d_T_takeOut_42 (by decide) (fun c_42 => ?_) (fun c_42 => ?_)
          · refine lv_iconst (v := 0) hx hb d_T_takeOut_62 (by decide) ?_
            refine lv_istore (lv' := [(5, .int 0), (4, .int v), (3, .int (y + 1)), (0, .ref (t 0)), (1, .int x), (2, .int y)]) hx hb d_T_takeOut_63 hl (by decide) rfl (fun ls hl => ?_)
            refine lv_aload_n hx hb d_T_takeOut_65 rfl (lv_at hl 3 rfl) ?_
            refine lv_iload_n hx hb d_T_takeOut_66 rfl (lv_at hl 4 rfl) ?_
            refine lv_iload_n hx hb d_T_takeOut_67 rfl (lv_at hl 4 rfl) ?_
            refine lv_iload_n hx hb d_T_takeOut_68 rfl (lv_at hl 2 rfl) ?_
            refine lv_iadd hx hb d_T_takeOut_69 ?_
            refine T_ro S (c_T_isInGap l D ca t g x (x + (y + 1)) hB) k_T_96 rfl hP hK rfl rfl hl.1 ⟨Nat.le_of_ble_eq_true rfl, Nat.le_of_ble_eq_true rfl⟩ ⟨Nat.zero_le _, Nat.zero_le _⟩ (Nat.le_of_ble_eq_true rfl) d_T_takeOut_70 ?_
            refine lv_if_eq (tgt := 93) hx hb d_T_takeOut_73 (by decide) (fun c_73 => ?_) (fun c_73 => ?_)
            · refine lv_iconst (v := 0) hx hb d_T_takeOut_93 (by decide) ?_
              refine lv_istore (lv' := [(6, .int 0), (5, .int 0), (4, .int v), (3, .int (y + 1)), (0, .ref (t 0)), (1, .int x), (2, .int y)]) hx hb d_T_takeOut_94 hl (by decide) rfl (fun ls hl => ?_)
              refine lv_iload hx hb d_T_takeOut_96 (lv_at hl 1 rfl) ?_
              refine lv_if_ne (tgt := 109) hx hb d_T_takeOut_98 (by decide) (fun q => absurd (by decide) q) (fun _ => ?_)
              refine lv_iload hx hb d_T_takeOut_101 (lv_at hl 0 rfl) ?_
              refine lv_if_ne (tgt := 109) hx hb d_T_takeOut_103 (by decide) (fun q => absurd (by decide) q) (fun _ => ?_)
              refine lv_bipush (v := (-5)) hx hb d_T_takeOut_106 (by decide) ?_
              exact hret _ _ _ _ _ _ d_T_takeOut_108 rfl (by first | (simp only [s_spl, s_s2, s_k1, s_k2, Bool.false_eq_true, or_self, or_true, true_or, or_false, false_or, c_1, c_9, c_14, c_20, ← hv, c_42, c_73, ↓reduceIte]; done) | (simp only [s_spl, s_s2, s_k1, s_k2, Bool.false_eq_true, or_self, or_true, true_or, or_false, false_or, c_1, c_9, c_14, c_20, ← hv, c_42, c_73, ↓reduceIte]; rfl) | rfl) (by first | (simp only [s_spl, s_s2, s_k1, s_k2, Bool.false_eq_true, or_self, or_true, true_or, or_false, false_or, c_1, c_9, c_14, c_20, ← hv, c_42, c_73, ↓reduceIte]; done) | (simp only [s_spl, s_s2, s_k1, s_k2, Bool.false_eq_true, or_self, or_true, true_or, or_false, false_or, c_1, c_9, c_14, c_20, ← hv, c_42, c_73, ↓reduceIte]; rfl) | rfl) hP hD hS
            · refine lv_aload_n hx hb d_T_takeOut_76 rfl (lv_at hl 3 rfl) ?_
              refine T_ro S (c_T_gap l D ca t g  hB) k_T_68 rfl hP hK rfl rfl hl.1 ⟨Nat.le_of_ble_eq_true rfl, Nat.le_of_ble_eq_true rfl⟩ ⟨Nat.zero_le _, Nat.zero_le _⟩ (Nat.le_of_ble_eq_true rfl) d_T_takeOut_77 ?_
              refine lv_iload_n hx hb d_T_takeOut_80 rfl (lv_at hl 2 rfl) ?_
              refine lv_isub hx hb d_T_takeOut_81 ?_
              refine lv_aload_n hx hb d_T_takeOut_82 rfl (lv_at hl 3 rfl) ?_
              refine f_get S cls_T hK hP 0 rfl 1 (by decide) fl_T_leastGap rfl rfl d_T_takeOut_83 ?_
              refine lv_icmp_lt (tgt := 93) hx hb d_T_takeOut_86 (by decide) (fun c_86 => ?_) (fun c_86 => ?_)
              · refine lv_iconst (v := 0) hx hb d_T_takeOut_93 (by decide) ?_
                refine lv_istore (lv' := [(6, .int 0), (5, .int 0), (4, .int v), (3, .int (y + 1)), (0, .ref (t 0)), (1, .int x), (2, .int y)]) hx hb d_T_takeOut_94 hl (by decide) rfl (fun ls hl => ?_)
                refine lv_iload hx hb d_T_takeOut_96 (lv_at hl 1 rfl) ?_
                refine lv_if_ne (tgt := 109) hx hb d_T_takeOut_98 (by decide) (fun q => absurd (by decide) q) (fun _ => ?_)
                refine lv_iload hx hb d_T_takeOut_101 (lv_at hl 0 rfl) ?_
                refine lv_if_ne (tgt := 109) hx hb d_T_takeOut_103 (by decide) (fun q => absurd (by decide) q) (fun _ => ?_)
                refine lv_bipush (v := (-5)) hx hb d_T_takeOut_106 (by decide) ?_
                exact hret _ _ _ _ _ _ d_T_takeOut_108 rfl (by first | (simp only [s_spl, s_s2, s_k1, s_k2, Bool.false_eq_true, or_self, or_true, true_or, or_false, false_or, c_1, c_9, c_14, c_20, ← hv, c_42, c_73, c_86, ↓reduceIte]; done) | (simp only [s_spl, s_s2, s_k1, s_k2, Bool.false_eq_true, or_self, or_true, true_or, or_false, false_or, c_1, c_9, c_14, c_20, ← hv, c_42, c_73, c_86, ↓reduceIte]; rfl) | rfl) (by first | (simp only [s_spl, s_s2, s_k1, s_k2, Bool.false_eq_true, or_self, or_true, true_or, or_false, false_or, c_1, c_9, c_14, c_20, ← hv, c_42, c_73, c_86, ↓reduceIte]; done) | (simp only [s_spl, s_s2, s_k1, s_k2, Bool.false_eq_true, or_self, or_true, true_or, or_false, false_or, c_1, c_9, c_14, c_20, ← hv, c_42, c_73, c_86, ↓reduceIte]; rfl) | rfl) hP hD hS
              · refine lv_iconst (v := 1) hx hb d_T_takeOut_89 (by decide) ?_
                refine lv_goto (tgt := 94) hx hb d_T_takeOut_90 (by decide) ?_
                refine lv_istore (lv' := [(6, .int 1), (5, .int 0), (4, .int v), (3, .int (y + 1)), (0, .ref (t 0)), (1, .int x), (2, .int y)]) hx hb d_T_takeOut_94 hl (by decide) rfl (fun ls hl => ?_)
                refine lv_iload hx hb d_T_takeOut_96 (lv_at hl 1 rfl) ?_
                refine lv_if_ne (tgt := 109) hx hb d_T_takeOut_98 (by decide) (fun q => absurd (by decide) q) (fun _ => ?_)
                refine lv_iload hx hb d_T_takeOut_101 (lv_at hl 0 rfl) ?_
                refine lv_if_ne (tgt := 109) hx hb d_T_takeOut_103 (by decide) (fun _ => ?_) (fun q => absurd q (by decide))
                refine lv_aload_n hx hb d_T_takeOut_109 rfl (lv_at hl 4 rfl) ?_
                refine f_get S cls_T hK hP 0 rfl 4 (by decide) fl_T_splices rfl rfl d_T_takeOut_110 ?_
                refine lv_bipush (v := 9) hx hb d_T_takeOut_113 (by decide) ?_
                refine lv_icmp_lt (tgt := 121) hx hb d_T_takeOut_115 (by decide) (fun c_115 => ?_) (fun c_115 => ?_)
                · refine lv_iload hx hb d_T_takeOut_121 (lv_at hl 2 rfl) ?_
                  refine lv_if_lt (tgt := 145) hx hb d_T_takeOut_123 (by decide) (fun _ => ?_) (fun q => absurd (c_42) q)
                  refine lv_aload_n hx hb d_T_takeOut_145 rfl (lv_at hl 4 rfl) ?_
                  refine lv_dup hx hb d_T_takeOut_146 rfl ?_
                  refine f_get S cls_T hK hP 0 rfl 0 (by decide) fl_T_feet rfl rfl d_T_takeOut_147 ?_
                  refine lv_iload_n hx hb d_T_takeOut_150 rfl (lv_at hl 3 rfl) ?_
                  refine lv_isub hx hb d_T_takeOut_151 ?_
                  refine T_put S hK hP hD hS 0 (by decide) fl_T_feet d_T_takeOut_152 (fun H locs hP hD hS => ?_)
                  obtain ⟨g1, hg1⟩ : ∃ z : Nat → Int32, z = upd g 0 ((g 0) - (y + 1)) := ⟨_, rfl⟩
                  rw [← hg1] at hP hD
                  refine lv_aload_n hx hb d_T_takeOut_155 rfl (lv_at hl 4 rfl) ?_
                  refine lv_dup hx hb d_T_takeOut_156 rfl ?_
                  refine f_get S cls_T hK hP 0 rfl 3 (by decide) fl_T_head rfl rfl d_T_takeOut_157 ?_
                  refine lv_iconst (v := 0) hx hb d_T_takeOut_160 (by decide) ?_
                  refine lv_iload_n hx hb d_T_takeOut_161 rfl (lv_at hl 3 rfl) ?_
                  refine lv_aload_n hx hb d_T_takeOut_162 rfl (lv_at hl 4 rfl) ?_
                  refine f_get S cls_T hK hP 0 rfl 3 (by decide) fl_T_head rfl rfl d_T_takeOut_163 ?_
                  refine lv_iload_n hx hb d_T_takeOut_166 rfl (lv_at hl 5 rfl) ?_
                  refine lv_isub hx hb d_T_takeOut_167 ?_
                  refine va_mmin hx hb (hml.trans hl.1.symm) hown (hts _ kx_T_62) (hts _ xs_Math_min) (hts _ in_java_lang_Math) (hts _ xc_Math_min) (Nat.le_of_ble_eq_true rfl) (Nat.le_of_ble_eq_true rfl) (Nat.zero_le _) (Nat.zero_le _) d_T_takeOut_168 ?_
                  refine lv_tope (z := mn2 (y + 1) ((g1 3) - x)) rfl ?_
                  refine va_mmax hx hb (hml.trans hl.1.symm) hown (hts _ kx_T_99) (hts _ xs_Math_max) (hts _ in_java_lang_Math) (hts _ xc_Math_max) (Nat.le_of_ble_eq_true rfl) (Nat.le_of_ble_eq_true rfl) (Nat.zero_le _) (Nat.zero_le _) d_T_takeOut_171 ?_
                  refine lv_tope (z := mx2 0 (mn2 (y + 1) ((g1 3) - x))) rfl ?_
                  refine lv_isub hx hb d_T_takeOut_174 ?_
                  refine T_put S hK hP hD hS 3 (by decide) fl_T_head d_T_takeOut_175 (fun H locs hP hD hS => ?_)
                  obtain ⟨g2, hg2⟩ : ∃ z : Nat → Int32, z = upd g1 3 ((g1 3) - (mx2 0 (mn2 (y + 1) ((g1 3) - x)))) := ⟨_, rfl⟩
                  rw [← hg2] at hP hD
                  refine lv_aload_n hx hb d_T_takeOut_178 rfl (lv_at hl 4 rfl) ?_
                  refine lv_dup hx hb d_T_takeOut_179 rfl ?_
                  refine f_get S cls_T hK hP 0 rfl 4 (by decide) fl_T_splices rfl rfl d_T_takeOut_180 ?_
                  refine lv_iconst (v := 1) hx hb d_T_takeOut_183 (by decide) ?_
                  refine lv_iadd hx hb d_T_takeOut_184 ?_
                  refine T_put S hK hP hD hS 4 (by decide) fl_T_splices d_T_takeOut_185 (fun H locs hP hD hS => ?_)
                  obtain ⟨g3, hg3⟩ : ∃ z : Nat → Int32, z = upd g2 4 ((g2 4) + 1) := ⟨_, rfl⟩
                  rw [← hg3] at hP hD
                  refine lv_aload_n hx hb d_T_takeOut_188 rfl (lv_at hl 4 rfl) ?_
                  refine lv_dup hx hb d_T_takeOut_189 rfl ?_
                  refine f_get S cls_T hK hP 0 rfl 5 (by decide) fl_T_feetTakenOut rfl rfl d_T_takeOut_190 ?_
                  refine lv_iload_n hx hb d_T_takeOut_193 rfl (lv_at hl 3 rfl) ?_
                  refine lv_iadd hx hb d_T_takeOut_194 ?_
                  refine T_put S hK hP hD hS 5 (by decide) fl_T_feetTakenOut d_T_takeOut_195 (fun H locs hP hD hS => ?_)
                  obtain ⟨g4, hg4⟩ : ∃ z : Nat → Int32, z = upd g3 5 ((g3 5) + (y + 1)) := ⟨_, rfl⟩
                  rw [← hg4] at hP hD
                  refine lv_aload_n hx hb d_T_takeOut_198 rfl (lv_at hl 4 rfl) ?_
                  refine f_get S cls_T hK hP 0 rfl 0 (by decide) fl_T_feet rfl rfl d_T_takeOut_199 ?_
                  exact hret _ _ _ _ _ _ d_T_takeOut_202 rfl (by subst hg1 hg2 hg3 hg4; first | (simp only [s_spl, s_s2, s_k1, s_k2, Bool.false_eq_true, or_self, or_true, true_or, or_false, false_or, c_1, c_9, c_14, c_20, ← hv, c_42, c_73, c_86, c_115, ↓reduceIte]; done) | (simp only [s_spl, s_s2, s_k1, s_k2, Bool.false_eq_true, or_self, or_true, true_or, or_false, false_or, c_1, c_9, c_14, c_20, ← hv, c_42, c_73, c_86, c_115, ↓reduceIte]; rfl) | rfl) (by subst hg1 hg2 hg3 hg4; first | (simp only [s_spl, s_s2, s_k1, s_k2, Bool.false_eq_true, or_self, or_true, true_or, or_false, false_or, c_1, c_9, c_14, c_20, ← hv, c_42, c_73, c_86, c_115, ↓reduceIte]; done) | (simp only [s_spl, s_s2, s_k1, s_k2, Bool.false_eq_true, or_self, or_true, true_or, or_false, false_or, c_1, c_9, c_14, c_20, ← hv, c_42, c_73, c_86, c_115, ↓reduceIte]; rfl) | rfl) hP hD hS
                · refine lv_bipush (v := (-4)) hx hb d_T_takeOut_118 (by decide) ?_
                  exact hret _ _ _ _ _ _ d_T_takeOut_120 rfl (by first | (simp only [s_spl, s_s2, s_k1, s_k2, Bool.false_eq_true, or_self, or_true, true_or, or_false, false_or, c_1, c_9, c_14, c_20, ← hv, c_42, c_73, c_86, c_115, ↓reduceIte]; done) | (simp only [s_spl, s_s2, s_k1, s_k2, Bool.false_eq_true, or_self, or_true, true_or, or_false, false_or, c_1, c_9, c_14, c_20, ← hv, c_42, c_73, c_86, c_115, ↓reduceIte]; rfl) | rfl) (by first | (simp only [s_spl, s_s2, s_k1, s_k2, Bool.false_eq_true, or_self, or_true, true_or, or_false, false_or, c_1, c_9, c_14, c_20, ← hv, c_42, c_73, c_86, c_115, ↓reduceIte]; done) | (simp only [s_spl, s_s2, s_k1, s_k2, Bool.false_eq_true, or_self, or_true, true_or, or_false, false_or, c_1, c_9, c_14, c_20, ← hv, c_42, c_73, c_86, c_115, ↓reduceIte]; rfl) | rfl) hP hD hS
          · obtain ⟨r, hr, hvr⟩ := rwd_of hB (by rw [← hv]; exact c_42)
            obtain rfl : v = nI r := hv.trans hvr
            have hcr : (nI r).toNatClampNeg = r := nI_clamp (by omega)
            refine lv_aload_n hx hb d_T_takeOut_45 rfl (lv_at hl 2 rfl) ?_
            refine f_get S cls_T hK hP 0 rfl 9 (by decide) fl_T_data rfl rfl d_T_takeOut_46 ?_
            refine lv_iload hx hb d_T_takeOut_49 (lv_at hl 0 rfl) ?_
            refine T_ar 0 (by decide) S hK hP (r := r) (by omega) rfl d_T_takeOut_51 ?_
            refine lv_iload_n hx hb d_T_takeOut_52 rfl (lv_at hl 1 rfl) ?_
            refine lv_isub hx hb d_T_takeOut_53 ?_
            refine lv_iconst (v := 1) hx hb d_T_takeOut_54 (by decide) ?_
            refine lv_icmp_lt (tgt := 62) hx hb d_T_takeOut_55 (by decide) (fun c_55 => ?_) (fun c_55 => ?_)
            · refine lv_iconst (v := 0) hx hb d_T_takeOut_62 (by decide) ?_
              refine lv_istore (lv' := [(5, .int 0), (4, .int (nI r)), (3, .int (y + 1)), (0, .ref (t 0)), (1, .int x), (2, .int y)]) hx hb d_T_takeOut_63 hl (by decide) rfl (fun ls hl => ?_)
              refine lv_aload_n hx hb d_T_takeOut_65 rfl (lv_at hl 3 rfl) ?_
              refine lv_iload_n hx hb d_T_takeOut_66 rfl (lv_at hl 4 rfl) ?_
              refine lv_iload_n hx hb d_T_takeOut_67 rfl (lv_at hl 4 rfl) ?_
              refine lv_iload_n hx hb d_T_takeOut_68 rfl (lv_at hl 2 rfl) ?_
              refine lv_iadd hx hb d_T_takeOut_69 ?_
              refine T_ro S (c_T_isInGap l D ca t g x (x + (y + 1)) hB) k_T_96 rfl hP hK rfl rfl hl.1 ⟨Nat.le_of_ble_eq_true rfl, Nat.le_of_ble_eq_true rfl⟩ ⟨Nat.zero_le _, Nat.zero_le _⟩ (Nat.le_of_ble_eq_true rfl) d_T_takeOut_70 ?_
              refine lv_if_eq (tgt := 93) hx hb d_T_takeOut_73 (by decide) (fun c_73 => ?_) (fun c_73 => ?_)
              · refine lv_iconst (v := 0) hx hb d_T_takeOut_93 (by decide) ?_
                refine lv_istore (lv' := [(6, .int 0), (5, .int 0), (4, .int (nI r)), (3, .int (y + 1)), (0, .ref (t 0)), (1, .int x), (2, .int y)]) hx hb d_T_takeOut_94 hl (by decide) rfl (fun ls hl => ?_)
                refine lv_iload hx hb d_T_takeOut_96 (lv_at hl 1 rfl) ?_
                refine lv_if_ne (tgt := 109) hx hb d_T_takeOut_98 (by decide) (fun q => absurd (by decide) q) (fun _ => ?_)
                refine lv_iload hx hb d_T_takeOut_101 (lv_at hl 0 rfl) ?_
                refine lv_if_ne (tgt := 109) hx hb d_T_takeOut_103 (by decide) (fun q => absurd (by decide) q) (fun _ => ?_)
                refine lv_bipush (v := (-5)) hx hb d_T_takeOut_106 (by decide) ?_
                exact hret _ _ _ _ _ _ d_T_takeOut_108 rfl (by first | (simp only [s_spl, s_s2, s_k1, s_k2, Bool.false_eq_true, or_self, or_true, true_or, or_false, false_or, c_1, c_9, c_14, c_20, ← hv, c_42, hcr, c_55, c_73, ↓reduceIte]; done) | (simp only [s_spl, s_s2, s_k1, s_k2, Bool.false_eq_true, or_self, or_true, true_or, or_false, false_or, c_1, c_9, c_14, c_20, ← hv, c_42, hcr, c_55, c_73, ↓reduceIte]; rfl) | rfl) (by first | (simp only [s_spl, s_s2, s_k1, s_k2, Bool.false_eq_true, or_self, or_true, true_or, or_false, false_or, c_1, c_9, c_14, c_20, ← hv, c_42, hcr, c_55, c_73, ↓reduceIte]; done) | (simp only [s_spl, s_s2, s_k1, s_k2, Bool.false_eq_true, or_self, or_true, true_or, or_false, false_or, c_1, c_9, c_14, c_20, ← hv, c_42, hcr, c_55, c_73, ↓reduceIte]; rfl) | rfl) hP hD hS
              · refine lv_aload_n hx hb d_T_takeOut_76 rfl (lv_at hl 3 rfl) ?_
                refine T_ro S (c_T_gap l D ca t g  hB) k_T_68 rfl hP hK rfl rfl hl.1 ⟨Nat.le_of_ble_eq_true rfl, Nat.le_of_ble_eq_true rfl⟩ ⟨Nat.zero_le _, Nat.zero_le _⟩ (Nat.le_of_ble_eq_true rfl) d_T_takeOut_77 ?_
                refine lv_iload_n hx hb d_T_takeOut_80 rfl (lv_at hl 2 rfl) ?_
                refine lv_isub hx hb d_T_takeOut_81 ?_
                refine lv_aload_n hx hb d_T_takeOut_82 rfl (lv_at hl 3 rfl) ?_
                refine f_get S cls_T hK hP 0 rfl 1 (by decide) fl_T_leastGap rfl rfl d_T_takeOut_83 ?_
                refine lv_icmp_lt (tgt := 93) hx hb d_T_takeOut_86 (by decide) (fun c_86 => ?_) (fun c_86 => ?_)
                · refine lv_iconst (v := 0) hx hb d_T_takeOut_93 (by decide) ?_
                  refine lv_istore (lv' := [(6, .int 0), (5, .int 0), (4, .int (nI r)), (3, .int (y + 1)), (0, .ref (t 0)), (1, .int x), (2, .int y)]) hx hb d_T_takeOut_94 hl (by decide) rfl (fun ls hl => ?_)
                  refine lv_iload hx hb d_T_takeOut_96 (lv_at hl 1 rfl) ?_
                  refine lv_if_ne (tgt := 109) hx hb d_T_takeOut_98 (by decide) (fun q => absurd (by decide) q) (fun _ => ?_)
                  refine lv_iload hx hb d_T_takeOut_101 (lv_at hl 0 rfl) ?_
                  refine lv_if_ne (tgt := 109) hx hb d_T_takeOut_103 (by decide) (fun q => absurd (by decide) q) (fun _ => ?_)
                  refine lv_bipush (v := (-5)) hx hb d_T_takeOut_106 (by decide) ?_
                  exact hret _ _ _ _ _ _ d_T_takeOut_108 rfl (by first | (simp only [s_spl, s_s2, s_k1, s_k2, Bool.false_eq_true, or_self, or_true, true_or, or_false, false_or, c_1, c_9, c_14, c_20, ← hv, c_42, hcr, c_55, c_73, c_86, ↓reduceIte]; done) | (simp only [s_spl, s_s2, s_k1, s_k2, Bool.false_eq_true, or_self, or_true, true_or, or_false, false_or, c_1, c_9, c_14, c_20, ← hv, c_42, hcr, c_55, c_73, c_86, ↓reduceIte]; rfl) | rfl) (by first | (simp only [s_spl, s_s2, s_k1, s_k2, Bool.false_eq_true, or_self, or_true, true_or, or_false, false_or, c_1, c_9, c_14, c_20, ← hv, c_42, hcr, c_55, c_73, c_86, ↓reduceIte]; done) | (simp only [s_spl, s_s2, s_k1, s_k2, Bool.false_eq_true, or_self, or_true, true_or, or_false, false_or, c_1, c_9, c_14, c_20, ← hv, c_42, hcr, c_55, c_73, c_86, ↓reduceIte]; rfl) | rfl) hP hD hS
                · refine lv_iconst (v := 1) hx hb d_T_takeOut_89 (by decide) ?_
                  refine lv_goto (tgt := 94) hx hb d_T_takeOut_90 (by decide) ?_
                  refine lv_istore (lv' := [(6, .int 1), (5, .int 0), (4, .int (nI r)), (3, .int (y + 1)), (0, .ref (t 0)), (1, .int x), (2, .int y)]) hx hb d_T_takeOut_94 hl (by decide) rfl (fun ls hl => ?_)
                  refine lv_iload hx hb d_T_takeOut_96 (lv_at hl 1 rfl) ?_
                  refine lv_if_ne (tgt := 109) hx hb d_T_takeOut_98 (by decide) (fun q => absurd (by decide) q) (fun _ => ?_)
                  refine lv_iload hx hb d_T_takeOut_101 (lv_at hl 0 rfl) ?_
                  refine lv_if_ne (tgt := 109) hx hb d_T_takeOut_103 (by decide) (fun _ => ?_) (fun q => absurd q (by decide))
                  refine lv_aload_n hx hb d_T_takeOut_109 rfl (lv_at hl 4 rfl) ?_
                  refine f_get S cls_T hK hP 0 rfl 4 (by decide) fl_T_splices rfl rfl d_T_takeOut_110 ?_
                  refine lv_bipush (v := 9) hx hb d_T_takeOut_113 (by decide) ?_
                  refine lv_icmp_lt (tgt := 121) hx hb d_T_takeOut_115 (by decide) (fun c_115 => ?_) (fun c_115 => ?_)
                  · refine lv_iload hx hb d_T_takeOut_121 (lv_at hl 2 rfl) ?_
                    refine lv_if_lt (tgt := 145) hx hb d_T_takeOut_123 (by decide) (fun q => absurd q (c_42)) (fun _ => ?_)
                    refine lv_aload_n hx hb d_T_takeOut_126 rfl (lv_at hl 4 rfl) ?_
                    refine f_get S cls_T hK hP 0 rfl 9 (by decide) fl_T_data rfl rfl d_T_takeOut_127 ?_
                    refine lv_iload hx hb d_T_takeOut_130 (lv_at hl 2 rfl) ?_
                    refine lv_dup2_11 hx hb d_T_takeOut_132 rfl rfl ?_
                    refine T_ar 0 (by decide) S hK hP (r := r) (by omega) rfl d_T_takeOut_133 ?_
                    refine lv_iload_n hx hb d_T_takeOut_134 rfl (lv_at hl 3 rfl) ?_
                    refine lv_isub hx hb d_T_takeOut_135 ?_
                    refine T_arst 0 (by decide) S hK hP hD hS (r := r) (by omega) rfl d_T_takeOut_136 (fun H locs hP hD hS => ?_)
                    obtain ⟨g5, hg5⟩ : ∃ z : Nat → Int32, z = upd g (10 + 4 * r + 0) ((g (10 + 4 * r + 0)) - (y + 1)) := ⟨_, rfl⟩
                    rw [← hg5] at hP hD
                    refine lv_aload_n hx hb d_T_takeOut_137 rfl (lv_at hl 4 rfl) ?_
                    refine f_get S cls_T hK hP 0 rfl 10 (by decide) fl_T_sums rfl rfl d_T_takeOut_138 ?_
                    refine lv_iload hx hb d_T_takeOut_141 (lv_at hl 2 rfl) ?_
                    refine lv_iconst (v := 0) hx hb d_T_takeOut_143 (by decide) ?_
                    refine T_arst 1 (by decide) S hK hP hD hS (r := r) (by omega) rfl d_T_takeOut_144 (fun H locs hP hD hS => ?_)
                    obtain ⟨g6, hg6⟩ : ∃ z : Nat → Int32, z = upd g5 (10 + 4 * r + 1) 0 := ⟨_, rfl⟩
                    rw [← hg6] at hP hD
                    refine lv_aload_n hx hb d_T_takeOut_145 rfl (lv_at hl 4 rfl) ?_
                    refine lv_dup hx hb d_T_takeOut_146 rfl ?_
                    refine f_get S cls_T hK hP 0 rfl 0 (by decide) fl_T_feet rfl rfl d_T_takeOut_147 ?_
                    refine lv_iload_n hx hb d_T_takeOut_150 rfl (lv_at hl 3 rfl) ?_
                    refine lv_isub hx hb d_T_takeOut_151 ?_
                    refine T_put S hK hP hD hS 0 (by decide) fl_T_feet d_T_takeOut_152 (fun H locs hP hD hS => ?_)
                    obtain ⟨g7, hg7⟩ : ∃ z : Nat → Int32, z = upd g6 0 ((g6 0) - (y + 1)) := ⟨_, rfl⟩
                    rw [← hg7] at hP hD
                    refine lv_aload_n hx hb d_T_takeOut_155 rfl (lv_at hl 4 rfl) ?_
                    refine lv_dup hx hb d_T_takeOut_156 rfl ?_
                    refine f_get S cls_T hK hP 0 rfl 3 (by decide) fl_T_head rfl rfl d_T_takeOut_157 ?_
                    refine lv_iconst (v := 0) hx hb d_T_takeOut_160 (by decide) ?_
                    refine lv_iload_n hx hb d_T_takeOut_161 rfl (lv_at hl 3 rfl) ?_
                    refine lv_aload_n hx hb d_T_takeOut_162 rfl (lv_at hl 4 rfl) ?_
                    refine f_get S cls_T hK hP 0 rfl 3 (by decide) fl_T_head rfl rfl d_T_takeOut_163 ?_
                    refine lv_iload_n hx hb d_T_takeOut_166 rfl (lv_at hl 5 rfl) ?_
                    refine lv_isub hx hb d_T_takeOut_167 ?_
                    refine va_mmin hx hb (hml.trans hl.1.symm) hown (hts _ kx_T_62) (hts _ xs_Math_min) (hts _ in_java_lang_Math) (hts _ xc_Math_min) (Nat.le_of_ble_eq_true rfl) (Nat.le_of_ble_eq_true rfl) (Nat.zero_le _) (Nat.zero_le _) d_T_takeOut_168 ?_
                    refine lv_tope (z := mn2 (y + 1) ((g7 3) - x)) rfl ?_
                    refine va_mmax hx hb (hml.trans hl.1.symm) hown (hts _ kx_T_99) (hts _ xs_Math_max) (hts _ in_java_lang_Math) (hts _ xc_Math_max) (Nat.le_of_ble_eq_true rfl) (Nat.le_of_ble_eq_true rfl) (Nat.zero_le _) (Nat.zero_le _) d_T_takeOut_171 ?_
                    refine lv_tope (z := mx2 0 (mn2 (y + 1) ((g7 3) - x))) rfl ?_
                    refine lv_isub hx hb d_T_takeOut_174 ?_
                    refine T_put S hK hP hD hS 3 (by decide) fl_T_head d_T_takeOut_175 (fun H locs hP hD hS => ?_)
                    obtain ⟨g8, hg8⟩ : ∃ z : Nat → Int32, z = upd g7 3 ((g7 3) - (mx2 0 (mn2 (y + 1) ((g7 3) - x)))) := ⟨_, rfl⟩
                    rw [← hg8] at hP hD
                    refine lv_aload_n hx hb d_T_takeOut_178 rfl (lv_at hl 4 rfl) ?_
                    refine lv_dup hx hb d_T_takeOut_179 rfl ?_
                    refine f_get S cls_T hK hP 0 rfl 4 (by decide) fl_T_splices rfl rfl d_T_takeOut_180 ?_
                    refine lv_iconst (v := 1) hx hb d_T_takeOut_183 (by decide) ?_
                    refine lv_iadd hx hb d_T_takeOut_184 ?_
                    refine T_put S hK hP hD hS 4 (by decide) fl_T_splices d_T_takeOut_185 (fun H locs hP hD hS => ?_)
                    obtain ⟨g9, hg9⟩ : ∃ z : Nat → Int32, z = upd g8 4 ((g8 4) + 1) := ⟨_, rfl⟩
                    rw [← hg9] at hP hD
                    refine lv_aload_n hx hb d_T_takeOut_188 rfl (lv_at hl 4 rfl) ?_
                    refine lv_dup hx hb d_T_takeOut_189 rfl ?_
                    refine f_get S cls_T hK hP 0 rfl 5 (by decide) fl_T_feetTakenOut rfl rfl d_T_takeOut_190 ?_
                    refine lv_iload_n hx hb d_T_takeOut_193 rfl (lv_at hl 3 rfl) ?_
                    refine lv_iadd hx hb d_T_takeOut_194 ?_
                    refine T_put S hK hP hD hS 5 (by decide) fl_T_feetTakenOut d_T_takeOut_195 (fun H locs hP hD hS => ?_)
                    obtain ⟨g10, hg10⟩ : ∃ z : Nat → Int32, z = upd g9 5 ((g9 5) + (y + 1)) := ⟨_, rfl⟩
                    rw [← hg10] at hP hD
                    refine lv_aload_n hx hb d_T_takeOut_198 rfl (lv_at hl 4 rfl) ?_
                    refine f_get S cls_T hK hP 0 rfl 0 (by decide) fl_T_feet rfl rfl d_T_takeOut_199 ?_
                    exact hret _ _ _ _ _ _ d_T_takeOut_202 rfl (by subst hg5 hg6 hg7 hg8 hg9 hg10; first | (simp only [s_spl, s_s2, s_k1, s_k2, Bool.false_eq_true, or_self, or_true, true_or, or_false, false_or, c_1, c_9, c_14, c_20, ← hv, c_42, hcr, c_55, c_73, c_86, c_115, ↓reduceIte]; done) | (simp only [s_spl, s_s2, s_k1, s_k2, Bool.false_eq_true, or_self, or_true, true_or, or_false, false_or, c_1, c_9, c_14, c_20, ← hv, c_42, hcr, c_55, c_73, c_86, c_115, ↓reduceIte]; rfl) | rfl) (by subst hg5 hg6 hg7 hg8 hg9 hg10; first | (simp only [s_spl, s_s2, s_k1, s_k2, Bool.false_eq_true, or_self, or_true, true_or, or_false, false_or, c_1, c_9, c_14, c_20, ← hv, c_42, hcr, c_55, c_73, c_86, c_115, ↓reduceIte]; done) | (simp only [s_spl, s_s2, s_k1, s_k2, Bool.false_eq_true, or_self, or_true, true_or, or_false, false_or, c_1, c_9, c_14, c_20, ← hv, c_42, hcr, c_55, c_73, c_86, c_115, ↓reduceIte]; rfl) | rfl) hP hD hS
                  · refine lv_bipush (v := (-4)) hx hb d_T_takeOut_118 (by decide) ?_
                    exact hret _ _ _ _ _ _ d_T_takeOut_120 rfl (by first | (simp only [s_spl, s_s2, s_k1, s_k2, Bool.false_eq_true, or_self, or_true, true_or, or_false, false_or, c_1, c_9, c_14, c_20, ← hv, c_42, hcr, c_55, c_73, c_86, c_115, ↓reduceIte]; done) | (simp only [s_spl, s_s2, s_k1, s_k2, Bool.false_eq_true, or_self, or_true, true_or, or_false, false_or, c_1, c_9, c_14, c_20, ← hv, c_42, hcr, c_55, c_73, c_86, c_115, ↓reduceIte]; rfl) | rfl) (by first | (simp only [s_spl, s_s2, s_k1, s_k2, Bool.false_eq_true, or_self, or_true, true_or, or_false, false_or, c_1, c_9, c_14, c_20, ← hv, c_42, hcr, c_55, c_73, c_86, c_115, ↓reduceIte]; done) | (simp only [s_spl, s_s2, s_k1, s_k2, Bool.false_eq_true, or_self, or_true, true_or, or_false, false_or, c_1, c_9, c_14, c_20, ← hv, c_42, hcr, c_55, c_73, c_86, c_115, ↓reduceIte]; rfl) | rfl) hP hD hS
            · refine lv_iconst (v := 1) hx hb d_T_takeOut_58 (by decide) ?_
              refine lv_goto (tgt := 63) hx hb d_T_takeOut_59 (by decide) ?_
              refine lv_istore (lv' := [(5, .int 1), (4, .int (nI r)), (3, .int (y + 1)), (0, .ref (t 0)), (1, .int x), (2, .int y)]) hx hb d_T_takeOut_63 hl (by decide) rfl (fun ls hl => ?_)
              refine lv_aload_n hx hb d_T_takeOut_65 rfl (lv_at hl 3 rfl) ?_
              refine lv_iload_n hx hb d_T_takeOut_66 rfl (lv_at hl 4 rfl) ?_
              refine lv_iload_n hx hb d_T_takeOut_67 rfl (lv_at hl 4 rfl) ?_
              refine lv_iload_n hx hb d_T_takeOut_68 rfl (lv_at hl 2 rfl) ?_
              refine lv_iadd hx hb d_T_takeOut_69 ?_
              refine T_ro S (c_T_isInGap l D ca t g x (x + (y + 1)) hB) k_T_96 rfl hP hK rfl rfl hl.1 ⟨Nat.le_of_ble_eq_true rfl, Nat.le_of_ble_eq_true rfl⟩ ⟨Nat.zero_le _, Nat.zero_le _⟩ (Nat.le_of_ble_eq_true rfl) d_T_takeOut_70 ?_
              refine lv_if_eq (tgt := 93) hx hb d_T_takeOut_73 (by decide) (fun c_73 => ?_) (fun c_73 => ?_)
              · refine lv_iconst (v := 0) hx hb d_T_takeOut_93 (by decide) ?_
                refine lv_istore (lv' := [(6, .int 0), (5, .int 1), (4, .int (nI r)), (3, .int (y + 1)), (0, .ref (t 0)), (1, .int x), (2, .int y)]) hx hb d_T_takeOut_94 hl (by decide) rfl (fun ls hl => ?_)
                refine lv_iload hx hb d_T_takeOut_96 (lv_at hl 1 rfl) ?_
                refine lv_if_ne (tgt := 109) hx hb d_T_takeOut_98 (by decide) (fun _ => ?_) (fun q => absurd q (by decide))
                refine lv_aload_n hx hb d_T_takeOut_109 rfl (lv_at hl 4 rfl) ?_
                refine f_get S cls_T hK hP 0 rfl 4 (by decide) fl_T_splices rfl rfl d_T_takeOut_110 ?_
                refine lv_bipush (v := 9) hx hb d_T_takeOut_113 (by decide) ?_
                refine lv_icmp_lt (tgt := 121) hx hb d_T_takeOut_115 (by decide) (fun c_115 => ?_) (fun c_115 => ?_)
                · refine lv_iload hx hb d_T_takeOut_121 (lv_at hl 2 rfl) ?_
                  refine lv_if_lt (tgt := 145) hx hb d_T_takeOut_123 (by decide) (fun q => absurd q (c_42)) (fun _ => ?_)
                  refine lv_aload_n hx hb d_T_takeOut_126 rfl (lv_at hl 4 rfl) ?_
                  refine f_get S cls_T hK hP 0 rfl 9 (by decide) fl_T_data rfl rfl d_T_takeOut_127 ?_
                  refine lv_iload hx hb d_T_takeOut_130 (lv_at hl 2 rfl) ?_
                  refine lv_dup2_11 hx hb d_T_takeOut_132 rfl rfl ?_
                  refine T_ar 0 (by decide) S hK hP (r := r) (by omega) rfl d_T_takeOut_133 ?_
                  refine lv_iload_n hx hb d_T_takeOut_134 rfl (lv_at hl 3 rfl) ?_
                  refine lv_isub hx hb d_T_takeOut_135 ?_
                  refine T_arst 0 (by decide) S hK hP hD hS (r := r) (by omega) rfl d_T_takeOut_136 (fun H locs hP hD hS => ?_)
                  obtain ⟨g11, hg11⟩ : ∃ z : Nat → Int32, z = upd g (10 + 4 * r + 0) ((g (10 + 4 * r + 0)) - (y + 1)) := ⟨_, rfl⟩
                  rw [← hg11] at hP hD
                  refine lv_aload_n hx hb d_T_takeOut_137 rfl (lv_at hl 4 rfl) ?_
                  refine f_get S cls_T hK hP 0 rfl 10 (by decide) fl_T_sums rfl rfl d_T_takeOut_138 ?_
                  refine lv_iload hx hb d_T_takeOut_141 (lv_at hl 2 rfl) ?_
                  refine lv_iconst (v := 0) hx hb d_T_takeOut_143 (by decide) ?_
                  refine T_arst 1 (by decide) S hK hP hD hS (r := r) (by omega) rfl d_T_takeOut_144 (fun H locs hP hD hS => ?_)
                  obtain ⟨g12, hg12⟩ : ∃ z : Nat → Int32, z = upd g11 (10 + 4 * r + 1) 0 := ⟨_, rfl⟩
                  rw [← hg12] at hP hD
                  refine lv_aload_n hx hb d_T_takeOut_145 rfl (lv_at hl 4 rfl) ?_
                  refine lv_dup hx hb d_T_takeOut_146 rfl ?_
                  refine f_get S cls_T hK hP 0 rfl 0 (by decide) fl_T_feet rfl rfl d_T_takeOut_147 ?_
                  refine lv_iload_n hx hb d_T_takeOut_150 rfl (lv_at hl 3 rfl) ?_
                  refine lv_isub hx hb d_T_takeOut_151 ?_
                  refine T_put S hK hP hD hS 0 (by decide) fl_T_feet d_T_takeOut_152 (fun H locs hP hD hS => ?_)
                  obtain ⟨g13, hg13⟩ : ∃ z : Nat → Int32, z = upd g12 0 ((g12 0) - (y + 1)) := ⟨_, rfl⟩
                  rw [← hg13] at hP hD
                  refine lv_aload_n hx hb d_T_takeOut_155 rfl (lv_at hl 4 rfl) ?_
                  refine lv_dup hx hb d_T_takeOut_156 rfl ?_
                  refine f_get S cls_T hK hP 0 rfl 3 (by decide) fl_T_head rfl rfl d_T_takeOut_157 ?_
                  refine lv_iconst (v := 0) hx hb d_T_takeOut_160 (by decide) ?_
                  refine lv_iload_n hx hb d_T_takeOut_161 rfl (lv_at hl 3 rfl) ?_
                  refine lv_aload_n hx hb d_T_takeOut_162 rfl (lv_at hl 4 rfl) ?_
                  refine f_get S cls_T hK hP 0 rfl 3 (by decide) fl_T_head rfl rfl d_T_takeOut_163 ?_
                  refine lv_iload_n hx hb d_T_takeOut_166 rfl (lv_at hl 5 rfl) ?_
                  refine lv_isub hx hb d_T_takeOut_167 ?_
                  refine va_mmin hx hb (hml.trans hl.1.symm) hown (hts _ kx_T_62) (hts _ xs_Math_min) (hts _ in_java_lang_Math) (hts _ xc_Math_min) (Nat.le_of_ble_eq_true rfl) (Nat.le_of_ble_eq_true rfl) (Nat.zero_le _) (Nat.zero_le _) d_T_takeOut_168 ?_
                  refine lv_tope (z := mn2 (y + 1) ((g13 3) - x)) rfl ?_
                  refine va_mmax hx hb (hml.trans hl.1.symm) hown (hts _ kx_T_99) (hts _ xs_Math_max) (hts _ in_java_lang_Math) (hts _ xc_Math_max) (Nat.le_of_ble_eq_true rfl) (Nat.le_of_ble_eq_true rfl) (Nat.zero_le _) (Nat.zero_le _) d_T_takeOut_171 ?_
                  refine lv_tope (z := mx2 0 (mn2 (y + 1) ((g13 3) - x))) rfl ?_
                  refine lv_isub hx hb d_T_takeOut_174 ?_
                  refine T_put S hK hP hD hS 3 (by decide) fl_T_head d_T_takeOut_175 (fun H locs hP hD hS => ?_)
                  obtain ⟨g14, hg14⟩ : ∃ z : Nat → Int32, z = upd g13 3 ((g13 3) - (mx2 0 (mn2 (y + 1) ((g13 3) - x)))) := ⟨_, rfl⟩
                  rw [← hg14] at hP hD
                  refine lv_aload_n hx hb d_T_takeOut_178 rfl (lv_at hl 4 rfl) ?_
                  refine lv_dup hx hb d_T_takeOut_179 rfl ?_
                  refine f_get S cls_T hK hP 0 rfl 4 (by decide) fl_T_splices rfl rfl d_T_takeOut_180 ?_
                  refine lv_iconst (v := 1) hx hb d_T_takeOut_183 (by decide) ?_
                  refine lv_iadd hx hb d_T_takeOut_184 ?_
                  refine T_put S hK hP hD hS 4 (by decide) fl_T_splices d_T_takeOut_185 (fun H locs hP hD hS => ?_)
                  obtain ⟨g15, hg15⟩ : ∃ z : Nat → Int32, z = upd g14 4 ((g14 4) + 1) := ⟨_, rfl⟩
                  rw [← hg15] at hP hD
                  refine lv_aload_n hx hb d_T_takeOut_188 rfl (lv_at hl 4 rfl) ?_
                  refine lv_dup hx hb d_T_takeOut_189 rfl ?_
                  refine f_get S cls_T hK hP 0 rfl 5 (by decide) fl_T_feetTakenOut rfl rfl d_T_takeOut_190 ?_
                  refine lv_iload_n hx hb d_T_takeOut_193 rfl (lv_at hl 3 rfl) ?_
                  refine lv_iadd hx hb d_T_takeOut_194 ?_
                  refine T_put S hK hP hD hS 5 (by decide) fl_T_feetTakenOut d_T_takeOut_195 (fun H locs hP hD hS => ?_)
                  obtain ⟨g16, hg16⟩ : ∃ z : Nat → Int32, z = upd g15 5 ((g15 5) + (y + 1)) := ⟨_, rfl⟩
                  rw [← hg16] at hP hD
                  refine lv_aload_n hx hb d_T_takeOut_198 rfl (lv_at hl 4 rfl) ?_
                  refine f_get S cls_T hK hP 0 rfl 0 (by decide) fl_T_feet rfl rfl d_T_takeOut_199 ?_
                  exact hret _ _ _ _ _ _ d_T_takeOut_202 rfl (by subst hg11 hg12 hg13 hg14 hg15 hg16; first | (simp only [s_spl, s_s2, s_k1, s_k2, Bool.false_eq_true, or_self, or_true, true_or, or_false, false_or, c_1, c_9, c_14, c_20, ← hv, c_42, hcr, c_55, c_73, c_115, ↓reduceIte]; done) | (simp only [s_spl, s_s2, s_k1, s_k2, Bool.false_eq_true, or_self, or_true, true_or, or_false, false_or, c_1, c_9, c_14, c_20, ← hv, c_42, hcr, c_55, c_73, c_115, ↓reduceIte]; rfl) | rfl) (by subst hg11 hg12 hg13 hg14 hg15 hg16; first | (simp only [s_spl, s_s2, s_k1, s_k2, Bool.false_eq_true, or_self, or_true, true_or, or_false, false_or, c_1, c_9, c_14, c_20, ← hv, c_42, hcr, c_55, c_73, c_115, ↓reduceIte]; done) | (simp only [s_spl, s_s2, s_k1, s_k2, Bool.false_eq_true, or_self, or_true, true_or, or_false, false_or, c_1, c_9, c_14, c_20, ← hv, c_42, hcr, c_55, c_73, c_115, ↓reduceIte]; rfl) | rfl) hP hD hS
                · refine lv_bipush (v := (-4)) hx hb d_T_takeOut_118 (by decide) ?_
                  exact hret _ _ _ _ _ _ d_T_takeOut_120 rfl (by first | (simp only [s_spl, s_s2, s_k1, s_k2, Bool.false_eq_true, or_self, or_true, true_or, or_false, false_or, c_1, c_9, c_14, c_20, ← hv, c_42, hcr, c_55, c_73, c_115, ↓reduceIte]; done) | (simp only [s_spl, s_s2, s_k1, s_k2, Bool.false_eq_true, or_self, or_true, true_or, or_false, false_or, c_1, c_9, c_14, c_20, ← hv, c_42, hcr, c_55, c_73, c_115, ↓reduceIte]; rfl) | rfl) (by first | (simp only [s_spl, s_s2, s_k1, s_k2, Bool.false_eq_true, or_self, or_true, true_or, or_false, false_or, c_1, c_9, c_14, c_20, ← hv, c_42, hcr, c_55, c_73, c_115, ↓reduceIte]; done) | (simp only [s_spl, s_s2, s_k1, s_k2, Bool.false_eq_true, or_self, or_true, true_or, or_false, false_or, c_1, c_9, c_14, c_20, ← hv, c_42, hcr, c_55, c_73, c_115, ↓reduceIte]; rfl) | rfl) hP hD hS
              · refine lv_aload_n hx hb d_T_takeOut_76 rfl (lv_at hl 3 rfl) ?_
                refine T_ro S (c_T_gap l D ca t g  hB) k_T_68 rfl hP hK rfl rfl hl.1 ⟨Nat.le_of_ble_eq_true rfl, Nat.le_of_ble_eq_true rfl⟩ ⟨Nat.zero_le _, Nat.zero_le _⟩ (Nat.le_of_ble_eq_true rfl) d_T_takeOut_77 ?_
                refine lv_iload_n hx hb d_T_takeOut_80 rfl (lv_at hl 2 rfl) ?_
                refine lv_isub hx hb d_T_takeOut_81 ?_
                refine lv_aload_n hx hb d_T_takeOut_82 rfl (lv_at hl 3 rfl) ?_
                refine f_get S cls_T hK hP 0 rfl 1 (by decide) fl_T_leastGap rfl rfl d_T_takeOut_83 ?_
                refine lv_icmp_lt (tgt := 93) hx hb d_T_takeOut_86 (by decide) (fun c_86 => ?_) (fun c_86 => ?_)
                · refine lv_iconst (v := 0) hx hb d_T_takeOut_93 (by decide) ?_
                  refine lv_istore (lv' := [(6, .int 0), (5, .int 1), (4, .int (nI r)), (3, .int (y + 1)), (0, .ref (t 0)), (1, .int x), (2, .int y)]) hx hb d_T_takeOut_94 hl (by decide) rfl (fun ls hl => ?_)
                  refine lv_iload hx hb d_T_takeOut_96 (lv_at hl 1 rfl) ?_
                  refine lv_if_ne (tgt := 109) hx hb d_T_takeOut_98 (by decide) (fun _ => ?_) (fun q => absurd q (by decide))
                  refine lv_aload_n hx hb d_T_takeOut_109 rfl (lv_at hl 4 rfl) ?_
                  refine f_get S cls_T hK hP 0 rfl 4 (by decide) fl_T_splices rfl rfl d_T_takeOut_110 ?_
                  refine lv_bipush (v := 9) hx hb d_T_takeOut_113 (by decide) ?_
                  refine lv_icmp_lt (tgt := 121) hx hb d_T_takeOut_115 (by decide) (fun c_115 => ?_) (fun c_115 => ?_)
                  · refine lv_iload hx hb d_T_takeOut_121 (lv_at hl 2 rfl) ?_
                    refine lv_if_lt (tgt := 145) hx hb d_T_takeOut_123 (by decide) (fun q => absurd q (c_42)) (fun _ => ?_)
                    refine lv_aload_n hx hb d_T_takeOut_126 rfl (lv_at hl 4 rfl) ?_
                    refine f_get S cls_T hK hP 0 rfl 9 (by decide) fl_T_data rfl rfl d_T_takeOut_127 ?_
                    refine lv_iload hx hb d_T_takeOut_130 (lv_at hl 2 rfl) ?_
                    refine lv_dup2_11 hx hb d_T_takeOut_132 rfl rfl ?_
                    refine T_ar 0 (by decide) S hK hP (r := r) (by omega) rfl d_T_takeOut_133 ?_
                    refine lv_iload_n hx hb d_T_takeOut_134 rfl (lv_at hl 3 rfl) ?_
                    refine lv_isub hx hb d_T_takeOut_135 ?_
                    refine T_arst 0 (by decide) S hK hP hD hS (r := r) (by omega) rfl d_T_takeOut_136 (fun H locs hP hD hS => ?_)
                    obtain ⟨g17, hg17⟩ : ∃ z : Nat → Int32, z = upd g (10 + 4 * r + 0) ((g (10 + 4 * r + 0)) - (y + 1)) := ⟨_, rfl⟩
                    rw [← hg17] at hP hD
                    refine lv_aload_n hx hb d_T_takeOut_137 rfl (lv_at hl 4 rfl) ?_
                    refine f_get S cls_T hK hP 0 rfl 10 (by decide) fl_T_sums rfl rfl d_T_takeOut_138 ?_
                    refine lv_iload hx hb d_T_takeOut_141 (lv_at hl 2 rfl) ?_
                    refine lv_iconst (v := 0) hx hb d_T_takeOut_143 (by decide) ?_
                    refine T_arst 1 (by decide) S hK hP hD hS (r := r) (by omega) rfl d_T_takeOut_144 (fun H locs hP hD hS => ?_)
                    obtain ⟨g18, hg18⟩ : ∃ z : Nat → Int32, z = upd g17 (10 + 4 * r + 1) 0 := ⟨_, rfl⟩
                    rw [← hg18] at hP hD
                    refine lv_aload_n hx hb d_T_takeOut_145 rfl (lv_at hl 4 rfl) ?_
                    refine lv_dup hx hb d_T_takeOut_146 rfl ?_
                    refine f_get S cls_T hK hP 0 rfl 0 (by decide) fl_T_feet rfl rfl d_T_takeOut_147 ?_
                    refine lv_iload_n hx hb d_T_takeOut_150 rfl (lv_at hl 3 rfl) ?_
                    refine lv_isub hx hb d_T_takeOut_151 ?_
                    refine T_put S hK hP hD hS 0 (by decide) fl_T_feet d_T_takeOut_152 (fun H locs hP hD hS => ?_)
                    obtain ⟨g19, hg19⟩ : ∃ z : Nat → Int32, z = upd g18 0 ((g18 0) - (y + 1)) := ⟨_, rfl⟩
                    rw [← hg19] at hP hD
                    refine lv_aload_n hx hb d_T_takeOut_155 rfl (lv_at hl 4 rfl) ?_
                    refine lv_dup hx hb d_T_takeOut_156 rfl ?_
                    refine f_get S cls_T hK hP 0 rfl 3 (by decide) fl_T_head rfl rfl d_T_takeOut_157 ?_
                    refine lv_iconst (v := 0) hx hb d_T_takeOut_160 (by decide) ?_
                    refine lv_iload_n hx hb d_T_takeOut_161 rfl (lv_at hl 3 rfl) ?_
                    refine lv_aload_n hx hb d_T_takeOut_162 rfl (lv_at hl 4 rfl) ?_
                    refine f_get S cls_T hK hP 0 rfl 3 (by decide) fl_T_head rfl rfl d_T_takeOut_163 ?_
                    refine lv_iload_n hx hb d_T_takeOut_166 rfl (lv_at hl 5 rfl) ?_
                    refine lv_isub hx hb d_T_takeOut_167 ?_
                    refine va_mmin hx hb (hml.trans hl.1.symm) hown (hts _ kx_T_62) (hts _ xs_Math_min) (hts _ in_java_lang_Math) (hts _ xc_Math_min) (Nat.le_of_ble_eq_true rfl) (Nat.le_of_ble_eq_true rfl) (Nat.zero_le _) (Nat.zero_le _) d_T_takeOut_168 ?_
                    refine lv_tope (z := mn2 (y + 1) ((g19 3) - x)) rfl ?_
                    refine va_mmax hx hb (hml.trans hl.1.symm) hown (hts _ kx_T_99) (hts _ xs_Math_max) (hts _ in_java_lang_Math) (hts _ xc_Math_max) (Nat.le_of_ble_eq_true rfl) (Nat.le_of_ble_eq_true rfl) (Nat.zero_le _) (Nat.zero_le _) d_T_takeOut_171 ?_
                    refine lv_tope (z := mx2 0 (mn2 (y + 1) ((g19 3) - x))) rfl ?_
                    refine lv_isub hx hb d_T_takeOut_174 ?_
                    refine T_put S hK hP hD hS 3 (by decide) fl_T_head d_T_takeOut_175 (fun H locs hP hD hS => ?_)
                    obtain ⟨g20, hg20⟩ : ∃ z : Nat → Int32, z = upd g19 3 ((g19 3) - (mx2 0 (mn2 (y + 1) ((g19 3) - x)))) := ⟨_, rfl⟩
                    rw [← hg20] at hP hD
                    refine lv_aload_n hx hb d_T_takeOut_178 rfl (lv_at hl 4 rfl) ?_
                    refine lv_dup hx hb d_T_takeOut_179 rfl ?_
                    refine f_get S cls_T hK hP 0 rfl 4 (by decide) fl_T_splices rfl rfl d_T_takeOut_180 ?_
                    refine lv_iconst (v := 1) hx hb d_T_takeOut_183 (by decide) ?_
                    refine lv_iadd hx hb d_T_takeOut_184 ?_
                    refine T_put S hK hP hD hS 4 (by decide) fl_T_splices d_T_takeOut_185 (fun H locs hP hD hS => ?_)
                    obtain ⟨g21, hg21⟩ : ∃ z : Nat → Int32, z = upd g20 4 ((g20 4) + 1) := ⟨_, rfl⟩
                    rw [← hg21] at hP hD
                    refine lv_aload_n hx hb d_T_takeOut_188 rfl (lv_at hl 4 rfl) ?_
                    refine lv_dup hx hb d_T_takeOut_189 rfl ?_
                    refine f_get S cls_T hK hP 0 rfl 5 (by decide) fl_T_feetTakenOut rfl rfl d_T_takeOut_190 ?_
                    refine lv_iload_n hx hb d_T_takeOut_193 rfl (lv_at hl 3 rfl) ?_
                    refine lv_iadd hx hb d_T_takeOut_194 ?_
                    refine T_put S hK hP hD hS 5 (by decide) fl_T_feetTakenOut d_T_takeOut_195 (fun H locs hP hD hS => ?_)
                    obtain ⟨g22, hg22⟩ : ∃ z : Nat → Int32, z = upd g21 5 ((g21 5) + (y + 1)) := ⟨_, rfl⟩
                    rw [← hg22] at hP hD
                    refine lv_aload_n hx hb d_T_takeOut_198 rfl (lv_at hl 4 rfl) ?_
                    refine f_get S cls_T hK hP 0 rfl 0 (by decide) fl_T_feet rfl rfl d_T_takeOut_199 ?_
                    exact hret _ _ _ _ _ _ d_T_takeOut_202 rfl (by subst hg17 hg18 hg19 hg20 hg21 hg22; first | (simp only [s_spl, s_s2, s_k1, s_k2, Bool.false_eq_true, or_self, or_true, true_or, or_false, false_or, c_1, c_9, c_14, c_20, ← hv, c_42, hcr, c_55, c_73, c_86, c_115, ↓reduceIte]; done) | (simp only [s_spl, s_s2, s_k1, s_k2, Bool.false_eq_true, or_self, or_true, true_or, or_false, false_or, c_1, c_9, c_14, c_20, ← hv, c_42, hcr, c_55, c_73, c_86, c_115, ↓reduceIte]; rfl) | rfl) (by subst hg17 hg18 hg19 hg20 hg21 hg22; first | (simp only [s_spl, s_s2, s_k1, s_k2, Bool.false_eq_true, or_self, or_true, true_or, or_false, false_or, c_1, c_9, c_14, c_20, ← hv, c_42, hcr, c_55, c_73, c_86, c_115, ↓reduceIte]; done) | (simp only [s_spl, s_s2, s_k1, s_k2, Bool.false_eq_true, or_self, or_true, true_or, or_false, false_or, c_1, c_9, c_14, c_20, ← hv, c_42, hcr, c_55, c_73, c_86, c_115, ↓reduceIte]; rfl) | rfl) hP hD hS
                  · refine lv_bipush (v := (-4)) hx hb d_T_takeOut_118 (by decide) ?_
                    exact hret _ _ _ _ _ _ d_T_takeOut_120 rfl (by first | (simp only [s_spl, s_s2, s_k1, s_k2, Bool.false_eq_true, or_self, or_true, true_or, or_false, false_or, c_1, c_9, c_14, c_20, ← hv, c_42, hcr, c_55, c_73, c_86, c_115, ↓reduceIte]; done) | (simp only [s_spl, s_s2, s_k1, s_k2, Bool.false_eq_true, or_self, or_true, true_or, or_false, false_or, c_1, c_9, c_14, c_20, ← hv, c_42, hcr, c_55, c_73, c_86, c_115, ↓reduceIte]; rfl) | rfl) (by first | (simp only [s_spl, s_s2, s_k1, s_k2, Bool.false_eq_true, or_self, or_true, true_or, or_false, false_or, c_1, c_9, c_14, c_20, ← hv, c_42, hcr, c_55, c_73, c_86, c_115, ↓reduceIte]; done) | (simp only [s_spl, s_s2, s_k1, s_k2, Bool.false_eq_true, or_self, or_true, true_or, or_false, false_or, c_1, c_9, c_14, c_20, ← hv, c_42, hcr, c_55, c_73, c_86, c_115, ↓reduceIte]; rfl) | rfl) hP hD hS
                · refine lv_iconst (v := 1) hx hb d_T_takeOut_89 (by decide) ?_
                  refine lv_goto (tgt := 94) hx hb d_T_takeOut_90 (by decide) ?_
                  refine lv_istore (lv' := [(6, .int 1), (5, .int 1), (4, .int (nI r)), (3, .int (y + 1)), (0, .ref (t 0)), (1, .int x), (2, .int y)]) hx hb d_T_takeOut_94 hl (by decide) rfl (fun ls hl => ?_)
                  refine lv_iload hx hb d_T_takeOut_96 (lv_at hl 1 rfl) ?_
                  refine lv_if_ne (tgt := 109) hx hb d_T_takeOut_98 (by decide) (fun _ => ?_) (fun q => absurd q (by decide))
                  refine lv_aload_n hx hb d_T_takeOut_109 rfl (lv_at hl 4 rfl) ?_
                  refine f_get S cls_T hK hP 0 rfl 4 (by decide) fl_T_splices rfl rfl d_T_takeOut_110 ?_
                  refine lv_bipush (v := 9) hx hb d_T_takeOut_113 (by decide) ?_
                  refine lv_icmp_lt (tgt := 121) hx hb d_T_takeOut_115 (by decide) (fun c_115 => ?_) (fun c_115 => ?_)
                  · refine lv_iload hx hb d_T_takeOut_121 (lv_at hl 2 rfl) ?_
                    refine lv_if_lt (tgt := 145) hx hb d_T_takeOut_123 (by decide) (fun q => absurd q (c_42)) (fun _ => ?_)
                    refine lv_aload_n hx hb d_T_takeOut_126 rfl (lv_at hl 4 rfl) ?_
                    refine f_get S cls_T hK hP 0 rfl 9 (by decide) fl_T_data rfl rfl d_T_takeOut_127 ?_
                    refine lv_iload hx hb d_T_takeOut_130 (lv_at hl 2 rfl) ?_
                    refine lv_dup2_11 hx hb d_T_takeOut_132 rfl rfl ?_
                    refine T_ar 0 (by decide) S hK hP (r := r) (by omega) rfl d_T_takeOut_133 ?_
                    refine lv_iload_n hx hb d_T_takeOut_134 rfl (lv_at hl 3 rfl) ?_
                    refine lv_isub hx hb d_T_takeOut_135 ?_
                    refine T_arst 0 (by decide) S hK hP hD hS (r := r) (by omega) rfl d_T_takeOut_136 (fun H locs hP hD hS => ?_)
                    obtain ⟨g23, hg23⟩ : ∃ z : Nat → Int32, z = upd g (10 + 4 * r + 0) ((g (10 + 4 * r + 0)) - (y + 1)) := ⟨_, rfl⟩
                    rw [← hg23] at hP hD
                    refine lv_aload_n hx hb d_T_takeOut_137 rfl (lv_at hl 4 rfl) ?_
                    refine f_get S cls_T hK hP 0 rfl 10 (by decide) fl_T_sums rfl rfl d_T_takeOut_138 ?_
                    refine lv_iload hx hb d_T_takeOut_141 (lv_at hl 2 rfl) ?_
                    refine lv_iconst (v := 0) hx hb d_T_takeOut_143 (by decide) ?_
                    refine T_arst 1 (by decide) S hK hP hD hS (r := r) (by omega) rfl d_T_takeOut_144 (fun H locs hP hD hS => ?_)
                    obtain ⟨g24, hg24⟩ : ∃ z : Nat → Int32, z = upd g23 (10 + 4 * r + 1) 0 := ⟨_, rfl⟩
                    rw [← hg24] at hP hD
                    refine lv_aload_n hx hb d_T_takeOut_145 rfl (lv_at hl 4 rfl) ?_
                    refine lv_dup hx hb d_T_takeOut_146 rfl ?_
                    refine f_get S cls_T hK hP 0 rfl 0 (by decide) fl_T_feet rfl rfl d_T_takeOut_147 ?_
                    refine lv_iload_n hx hb d_T_takeOut_150 rfl (lv_at hl 3 rfl) ?_
                    refine lv_isub hx hb d_T_takeOut_151 ?_
                    refine T_put S hK hP hD hS 0 (by decide) fl_T_feet d_T_takeOut_152 (fun H locs hP hD hS => ?_)
                    obtain ⟨g25, hg25⟩ : ∃ z : Nat → Int32, z = upd g24 0 ((g24 0) - (y + 1)) := ⟨_, rfl⟩
                    rw [← hg25] at hP hD
                    refine lv_aload_n hx hb d_T_takeOut_155 rfl (lv_at hl 4 rfl) ?_
                    refine lv_dup hx hb d_T_takeOut_156 rfl ?_
                    refine f_get S cls_T hK hP 0 rfl 3 (by decide) fl_T_head rfl rfl d_T_takeOut_157 ?_
                    refine lv_iconst (v := 0) hx hb d_T_takeOut_160 (by decide) ?_
                    refine lv_iload_n hx hb d_T_takeOut_161 rfl (lv_at hl 3 rfl) ?_
                    refine lv_aload_n hx hb d_T_takeOut_162 rfl (lv_at hl 4 rfl) ?_
                    refine f_get S cls_T hK hP 0 rfl 3 (by decide) fl_T_head rfl rfl d_T_takeOut_163 ?_
                    refine lv_iload_n hx hb d_T_takeOut_166 rfl (lv_at hl 5 rfl) ?_
                    refine lv_isub hx hb d_T_takeOut_167 ?_
                    refine va_mmin hx hb (hml.trans hl.1.symm) hown (hts _ kx_T_62) (hts _ xs_Math_min) (hts _ in_java_lang_Math) (hts _ xc_Math_min) (Nat.le_of_ble_eq_true rfl) (Nat.le_of_ble_eq_true rfl) (Nat.zero_le _) (Nat.zero_le _) d_T_takeOut_168 ?_
                    refine lv_tope (z := mn2 (y + 1) ((g25 3) - x)) rfl ?_
                    refine va_mmax hx hb (hml.trans hl.1.symm) hown (hts _ kx_T_99) (hts _ xs_Math_max) (hts _ in_java_lang_Math) (hts _ xc_Math_max) (Nat.le_of_ble_eq_true rfl) (Nat.le_of_ble_eq_true rfl) (Nat.zero_le _) (Nat.zero_le _) d_T_takeOut_171 ?_
                    refine lv_tope (z := mx2 0 (mn2 (y + 1) ((g25 3) - x))) rfl ?_
                    refine lv_isub hx hb d_T_takeOut_174 ?_
                    refine T_put S hK hP hD hS 3 (by decide) fl_T_head d_T_takeOut_175 (fun H locs hP hD hS => ?_)
                    obtain ⟨g26, hg26⟩ : ∃ z : Nat → Int32, z = upd g25 3 ((g25 3) - (mx2 0 (mn2 (y + 1) ((g25 3) - x)))) := ⟨_, rfl⟩
                    rw [← hg26] at hP hD
                    refine lv_aload_n hx hb d_T_takeOut_178 rfl (lv_at hl 4 rfl) ?_
                    refine lv_dup hx hb d_T_takeOut_179 rfl ?_
                    refine f_get S cls_T hK hP 0 rfl 4 (by decide) fl_T_splices rfl rfl d_T_takeOut_180 ?_
                    refine lv_iconst (v := 1) hx hb d_T_takeOut_183 (by decide) ?_
                    refine lv_iadd hx hb d_T_takeOut_184 ?_
                    refine T_put S hK hP hD hS 4 (by decide) fl_T_splices d_T_takeOut_185 (fun H locs hP hD hS => ?_)
                    obtain ⟨g27, hg27⟩ : ∃ z : Nat → Int32, z = upd g26 4 ((g26 4) + 1) := ⟨_, rfl⟩
                    rw [← hg27] at hP hD
                    refine lv_aload_n hx hb d_T_takeOut_188 rfl (lv_at hl 4 rfl) ?_
                    refine lv_dup hx hb d_T_takeOut_189 rfl ?_
                    refine f_get S cls_T hK hP 0 rfl 5 (by decide) fl_T_feetTakenOut rfl rfl d_T_takeOut_190 ?_
                    refine lv_iload_n hx hb d_T_takeOut_193 rfl (lv_at hl 3 rfl) ?_
                    refine lv_iadd hx hb d_T_takeOut_194 ?_
                    refine T_put S hK hP hD hS 5 (by decide) fl_T_feetTakenOut d_T_takeOut_195 (fun H locs hP hD hS => ?_)
                    obtain ⟨g28, hg28⟩ : ∃ z : Nat → Int32, z = upd g27 5 ((g27 5) + (y + 1)) := ⟨_, rfl⟩
                    rw [← hg28] at hP hD
                    refine lv_aload_n hx hb d_T_takeOut_198 rfl (lv_at hl 4 rfl) ?_
                    refine f_get S cls_T hK hP 0 rfl 0 (by decide) fl_T_feet rfl rfl d_T_takeOut_199 ?_
                    exact hret _ _ _ _ _ _ d_T_takeOut_202 rfl (by subst hg23 hg24 hg25 hg26 hg27 hg28; first | (simp only [s_spl, s_s2, s_k1, s_k2, Bool.false_eq_true, or_self, or_true, true_or, or_false, false_or, c_1, c_9, c_14, c_20, ← hv, c_42, hcr, c_55, c_73, c_86, c_115, ↓reduceIte]; done) | (simp only [s_spl, s_s2, s_k1, s_k2, Bool.false_eq_true, or_self, or_true, true_or, or_false, false_or, c_1, c_9, c_14, c_20, ← hv, c_42, hcr, c_55, c_73, c_86, c_115, ↓reduceIte]; rfl) | rfl) (by subst hg23 hg24 hg25 hg26 hg27 hg28; first | (simp only [s_spl, s_s2, s_k1, s_k2, Bool.false_eq_true, or_self, or_true, true_or, or_false, false_or, c_1, c_9, c_14, c_20, ← hv, c_42, hcr, c_55, c_73, c_86, c_115, ↓reduceIte]; done) | (simp only [s_spl, s_s2, s_k1, s_k2, Bool.false_eq_true, or_self, or_true, true_or, or_false, false_or, c_1, c_9, c_14, c_20, ← hv, c_42, hcr, c_55, c_73, c_86, c_115, ↓reduceIte]; rfl) | rfl) hP hD hS
                  · refine lv_bipush (v := (-4)) hx hb d_T_takeOut_118 (by decide) ?_
                    exact hret _ _ _ _ _ _ d_T_takeOut_120 rfl (by first | (simp only [s_spl, s_s2, s_k1, s_k2, Bool.false_eq_true, or_self, or_true, true_or, or_false, false_or, c_1, c_9, c_14, c_20, ← hv, c_42, hcr, c_55, c_73, c_86, c_115, ↓reduceIte]; done) | (simp only [s_spl, s_s2, s_k1, s_k2, Bool.false_eq_true, or_self, or_true, true_or, or_false, false_or, c_1, c_9, c_14, c_20, ← hv, c_42, hcr, c_55, c_73, c_86, c_115, ↓reduceIte]; rfl) | rfl) (by first | (simp only [s_spl, s_s2, s_k1, s_k2, Bool.false_eq_true, or_self, or_true, true_or, or_false, false_or, c_1, c_9, c_14, c_20, ← hv, c_42, hcr, c_55, c_73, c_86, c_115, ↓reduceIte]; done) | (simp only [s_spl, s_s2, s_k1, s_k2, Bool.false_eq_true, or_self, or_true, true_or, or_false, false_or, c_1, c_9, c_14, c_20, ← hv, c_42, hcr, c_55, c_73, c_86, c_115, ↓reduceIte]; rfl) | rfl) hP hD hS
        · refine lv_bipush (v := (-2)) hx hb d_T_takeOut_23 (by decide) ?_
          exact hret _ _ _ _ _ _ d_T_takeOut_25 rfl (by first | (simp only [s_spl, s_s2, s_k1, s_k2, Bool.false_eq_true, or_self, or_true, true_or, or_false, false_or, c_1, c_9, c_14, c_20, ↓reduceIte]; done) | (simp only [s_spl, s_s2, s_k1, s_k2, Bool.false_eq_true, or_self, or_true, true_or, or_false, false_or, c_1, c_9, c_14, c_20, ↓reduceIte]; rfl) | rfl) (by first | (simp only [s_spl, s_s2, s_k1, s_k2, Bool.false_eq_true, or_self, or_true, true_or, or_false, false_or, c_1, c_9, c_14, c_20, ↓reduceIte]; done) | (simp only [s_spl, s_s2, s_k1, s_k2, Bool.false_eq_true, or_self, or_true, true_or, or_false, false_or, c_1, c_9, c_14, c_20, ↓reduceIte]; rfl) | rfl) hP hD hS
set_option maxHeartbeats 4000000 in
set_option maxRecDepth 100000 in
theorem c_T_copyFrom (l : Launch) (D : va_G) (ca : Nat → ClassId) (t t2 : Nat → Nat) (g g2 : Nat → Int32) : MV l y_T_copyFrom b_T_copyFrom 2 1 30 D ca [.ref (t 0), .ref (t2 0)] (tw ca t g ++ tw ca t2 g2) (tw ca t g2 ++ tw ca t2 g2) := by
  refine MV.mk rfl (Nat.le_of_ble_eq_true rfl) ?_
  intro p e s m args below meth c Q A S hA hP hD hK
  obtain ⟨hx, hb, hml, hown, hts⟩ := id S
  intro hret ls hl0 hS
  have hl : lv_has ls 2 [(0, .ref (t 0)), (1, .ref (t2 0))] := hl0
  refine lv_aload_n hx hb d_T_copyFrom_0 rfl (lv_at hl 0 rfl) ?_
  refine lv_aload_n hx hb d_T_copyFrom_1 rfl (lv_at hl 1 rfl) ?_
  refine f_get S cls_T hK hP 6 rfl 0 (by decide) fl_T_feet rfl rfl d_T_copyFrom_2 ?_
  refine f_put S cls_T hK hP hD hS 0 rfl 0 (by decide) fl_T_feet rfl rfl rfl rfl (Nat.le_of_ble_eq_true rfl) d_T_copyFrom_5 (fun H locs hP hD hS => ?_)
  have hP : va_P D classes ([(t 0, .inr (1, [.int (g2 0), .int (g 1), .int (g 2), .int (g 3), .int (g 4), .int (g 5), .int (g 6), .int (g 7), .ref (t 1), .ref (t 2), .ref (t 3), .ref (t 4), .ref (t 5)])), (t 1, .inl (ca 0, 2, .inl (tb g))), (t 2, .inl (ca 0, 40, .inl (td 0 g))), (t 3, .inl (ca 0, 40, .inl (td 1 g))), (t 4, .inl (ca 0, 40, .inl (td 2 g))), (t 5, .inl (ca 0, 40, .inl (td 3 g)))] ++ tw ca t2 g2) H := hP
  have hD : va_D A ([(t 0, .inr (1, [.int (g2 0), .int (g 1), .int (g 2), .int (g 3), .int (g 4), .int (g 5), .int (g 6), .int (g 7), .ref (t 1), .ref (t 2), .ref (t 3), .ref (t 4), .ref (t 5)])), (t 1, .inl (ca 0, 2, .inl (tb g))), (t 2, .inl (ca 0, 40, .inl (td 0 g))), (t 3, .inl (ca 0, 40, .inl (td 1 g))), (t 4, .inl (ca 0, 40, .inl (td 2 g))), (t 5, .inl (ca 0, 40, .inl (td 3 g)))] ++ tw ca t2 g2) := hD
  refine lv_aload_n hx hb d_T_copyFrom_8 rfl (lv_at hl 0 rfl) ?_
  refine lv_aload_n hx hb d_T_copyFrom_9 rfl (lv_at hl 1 rfl) ?_
  refine f_get S cls_T hK hP 6 rfl 1 (by decide) fl_T_leastGap rfl rfl d_T_copyFrom_10 ?_
  refine f_put S cls_T hK hP hD hS 0 rfl 1 (by decide) fl_T_leastGap rfl rfl rfl rfl (Nat.le_of_ble_eq_true rfl) d_T_copyFrom_13 (fun H locs hP hD hS => ?_)
  have hP : va_P D classes ([(t 0, .inr (1, [.int (g2 0), .int (g2 1), .int (g 2), .int (g 3), .int (g 4), .int (g 5), .int (g 6), .int (g 7), .ref (t 1), .ref (t 2), .ref (t 3), .ref (t 4), .ref (t 5)])), (t 1, .inl (ca 0, 2, .inl (tb g))), (t 2, .inl (ca 0, 40, .inl (td 0 g))), (t 3, .inl (ca 0, 40, .inl (td 1 g))), (t 4, .inl (ca 0, 40, .inl (td 2 g))), (t 5, .inl (ca 0, 40, .inl (td 3 g)))] ++ tw ca t2 g2) H := hP
  have hD : va_D A ([(t 0, .inr (1, [.int (g2 0), .int (g2 1), .int (g 2), .int (g 3), .int (g 4), .int (g 5), .int (g 6), .int (g 7), .ref (t 1), .ref (t 2), .ref (t 3), .ref (t 4), .ref (t 5)])), (t 1, .inl (ca 0, 2, .inl (tb g))), (t 2, .inl (ca 0, 40, .inl (td 0 g))), (t 3, .inl (ca 0, 40, .inl (td 1 g))), (t 4, .inl (ca 0, 40, .inl (td 2 g))), (t 5, .inl (ca 0, 40, .inl (td 3 g)))] ++ tw ca t2 g2) := hD
  refine lv_aload_n hx hb d_T_copyFrom_16 rfl (lv_at hl 0 rfl) ?_
  refine lv_aload_n hx hb d_T_copyFrom_17 rfl (lv_at hl 1 rfl) ?_
  refine f_get S cls_T hK hP 6 rfl 2 (by decide) fl_T_mark rfl rfl d_T_copyFrom_18 ?_
  refine f_put S cls_T hK hP hD hS 0 rfl 2 (by decide) fl_T_mark rfl rfl rfl rfl (Nat.le_of_ble_eq_true rfl) d_T_copyFrom_21 (fun H locs hP hD hS => ?_)
  have hP : va_P D classes ([(t 0, .inr (1, [.int (g2 0), .int (g2 1), .int (g2 2), .int (g 3), .int (g 4), .int (g 5), .int (g 6), .int (g 7), .ref (t 1), .ref (t 2), .ref (t 3), .ref (t 4), .ref (t 5)])), (t 1, .inl (ca 0, 2, .inl (tb g))), (t 2, .inl (ca 0, 40, .inl (td 0 g))), (t 3, .inl (ca 0, 40, .inl (td 1 g))), (t 4, .inl (ca 0, 40, .inl (td 2 g))), (t 5, .inl (ca 0, 40, .inl (td 3 g)))] ++ tw ca t2 g2) H := hP
  have hD : va_D A ([(t 0, .inr (1, [.int (g2 0), .int (g2 1), .int (g2 2), .int (g 3), .int (g 4), .int (g 5), .int (g 6), .int (g 7), .ref (t 1), .ref (t 2), .ref (t 3), .ref (t 4), .ref (t 5)])), (t 1, .inl (ca 0, 2, .inl (tb g))), (t 2, .inl (ca 0, 40, .inl (td 0 g))), (t 3, .inl (ca 0, 40, .inl (td 1 g))), (t 4, .inl (ca 0, 40, .inl (td 2 g))), (t 5, .inl (ca 0, 40, .inl (td 3 g)))] ++ tw ca t2 g2) := hD
  refine lv_aload_n hx hb d_T_copyFrom_24 rfl (lv_at hl 0 rfl) ?_
  refine lv_aload_n hx hb d_T_copyFrom_25 rfl (lv_at hl 1 rfl) ?_
  refine f_get S cls_T hK hP 6 rfl 3 (by decide) fl_T_head rfl rfl d_T_copyFrom_26 ?_
  refine f_put S cls_T hK hP hD hS 0 rfl 3 (by decide) fl_T_head rfl rfl rfl rfl (Nat.le_of_ble_eq_true rfl) d_T_copyFrom_29 (fun H locs hP hD hS => ?_)
  have hP : va_P D classes ([(t 0, .inr (1, [.int (g2 0), .int (g2 1), .int (g2 2), .int (g2 3), .int (g 4), .int (g 5), .int (g 6), .int (g 7), .ref (t 1), .ref (t 2), .ref (t 3), .ref (t 4), .ref (t 5)])), (t 1, .inl (ca 0, 2, .inl (tb g))), (t 2, .inl (ca 0, 40, .inl (td 0 g))), (t 3, .inl (ca 0, 40, .inl (td 1 g))), (t 4, .inl (ca 0, 40, .inl (td 2 g))), (t 5, .inl (ca 0, 40, .inl (td 3 g)))] ++ tw ca t2 g2) H := hP
  have hD : va_D A ([(t 0, .inr (1, [.int (g2 0), .int (g2 1), .int (g2 2), .int (g2 3), .int (g 4), .int (g 5), .int (g 6), .int (g 7), .ref (t 1), .ref (t 2), .ref (t 3), .ref (t 4), .ref (t 5)])), (t 1, .inl (ca 0, 2, .inl (tb g))), (t 2, .inl (ca 0, 40, .inl (td 0 g))), (t 3, .inl (ca 0, 40, .inl (td 1 g))), (t 4, .inl (ca 0, 40, .inl (td 2 g))), (t 5, .inl (ca 0, 40, .inl (td 3 g)))] ++ tw ca t2 g2) := hD
  refine lv_aload_n hx hb d_T_copyFrom_32 rfl (lv_at hl 0 rfl) ?_
  refine lv_aload_n hx hb d_T_copyFrom_33 rfl (lv_at hl 1 rfl) ?_
  refine f_get S cls_T hK hP 6 rfl 4 (by decide) fl_T_splices rfl rfl d_T_copyFrom_34 ?_
  refine f_put S cls_T hK hP hD hS 0 rfl 4 (by decide) fl_T_splices rfl rfl rfl rfl (Nat.le_of_ble_eq_true rfl) d_T_copyFrom_37 (fun H locs hP hD hS => ?_)
  have hP : va_P D classes ([(t 0, .inr (1, [.int (g2 0), .int (g2 1), .int (g2 2), .int (g2 3), .int (g2 4), .int (g 5), .int (g 6), .int (g 7), .ref (t 1), .ref (t 2), .ref (t 3), .ref (t 4), .ref (t 5)])), (t 1, .inl (ca 0, 2, .inl (tb g))), (t 2, .inl (ca 0, 40, .inl (td 0 g))), (t 3, .inl (ca 0, 40, .inl (td 1 g))), (t 4, .inl (ca 0, 40, .inl (td 2 g))), (t 5, .inl (ca 0, 40, .inl (td 3 g)))] ++ tw ca t2 g2) H := hP
  have hD : va_D A ([(t 0, .inr (1, [.int (g2 0), .int (g2 1), .int (g2 2), .int (g2 3), .int (g2 4), .int (g 5), .int (g 6), .int (g 7), .ref (t 1), .ref (t 2), .ref (t 3), .ref (t 4), .ref (t 5)])), (t 1, .inl (ca 0, 2, .inl (tb g))), (t 2, .inl (ca 0, 40, .inl (td 0 g))), (t 3, .inl (ca 0, 40, .inl (td 1 g))), (t 4, .inl (ca 0, 40, .inl (td 2 g))), (t 5, .inl (ca 0, 40, .inl (td 3 g)))] ++ tw ca t2 g2) := hD
  refine lv_aload_n hx hb d_T_copyFrom_40 rfl (lv_at hl 0 rfl) ?_
  refine lv_aload_n hx hb d_T_copyFrom_41 rfl (lv_at hl 1 rfl) ?_
  refine f_get S cls_T hK hP 6 rfl 5 (by decide) fl_T_feetTakenOut rfl rfl d_T_copyFrom_42 ?_
  refine f_put S cls_T hK hP hD hS 0 rfl 5 (by decide) fl_T_feetTakenOut rfl rfl rfl rfl (Nat.le_of_ble_eq_true rfl) d_T_copyFrom_45 (fun H locs hP hD hS => ?_)
  have hP : va_P D classes ([(t 0, .inr (1, [.int (g2 0), .int (g2 1), .int (g2 2), .int (g2 3), .int (g2 4), .int (g2 5), .int (g 6), .int (g 7), .ref (t 1), .ref (t 2), .ref (t 3), .ref (t 4), .ref (t 5)])), (t 1, .inl (ca 0, 2, .inl (tb g))), (t 2, .inl (ca 0, 40, .inl (td 0 g))), (t 3, .inl (ca 0, 40, .inl (td 1 g))), (t 4, .inl (ca 0, 40, .inl (td 2 g))), (t 5, .inl (ca 0, 40, .inl (td 3 g)))] ++ tw ca t2 g2) H := hP
  have hD : va_D A ([(t 0, .inr (1, [.int (g2 0), .int (g2 1), .int (g2 2), .int (g2 3), .int (g2 4), .int (g2 5), .int (g 6), .int (g 7), .ref (t 1), .ref (t 2), .ref (t 3), .ref (t 4), .ref (t 5)])), (t 1, .inl (ca 0, 2, .inl (tb g))), (t 2, .inl (ca 0, 40, .inl (td 0 g))), (t 3, .inl (ca 0, 40, .inl (td 1 g))), (t 4, .inl (ca 0, 40, .inl (td 2 g))), (t 5, .inl (ca 0, 40, .inl (td 3 g)))] ++ tw ca t2 g2) := hD
  refine lv_aload_n hx hb d_T_copyFrom_48 rfl (lv_at hl 0 rfl) ?_
  refine lv_aload_n hx hb d_T_copyFrom_49 rfl (lv_at hl 1 rfl) ?_
  refine f_get S cls_T hK hP 6 rfl 6 (by decide) fl_T_travel rfl rfl d_T_copyFrom_50 ?_
  refine f_put S cls_T hK hP hD hS 0 rfl 6 (by decide) fl_T_travel rfl rfl rfl rfl (Nat.le_of_ble_eq_true rfl) d_T_copyFrom_53 (fun H locs hP hD hS => ?_)
  have hP : va_P D classes ([(t 0, .inr (1, [.int (g2 0), .int (g2 1), .int (g2 2), .int (g2 3), .int (g2 4), .int (g2 5), .int (g2 6), .int (g 7), .ref (t 1), .ref (t 2), .ref (t 3), .ref (t 4), .ref (t 5)])), (t 1, .inl (ca 0, 2, .inl (tb g))), (t 2, .inl (ca 0, 40, .inl (td 0 g))), (t 3, .inl (ca 0, 40, .inl (td 1 g))), (t 4, .inl (ca 0, 40, .inl (td 2 g))), (t 5, .inl (ca 0, 40, .inl (td 3 g)))] ++ tw ca t2 g2) H := hP
  have hD : va_D A ([(t 0, .inr (1, [.int (g2 0), .int (g2 1), .int (g2 2), .int (g2 3), .int (g2 4), .int (g2 5), .int (g2 6), .int (g 7), .ref (t 1), .ref (t 2), .ref (t 3), .ref (t 4), .ref (t 5)])), (t 1, .inl (ca 0, 2, .inl (tb g))), (t 2, .inl (ca 0, 40, .inl (td 0 g))), (t 3, .inl (ca 0, 40, .inl (td 1 g))), (t 4, .inl (ca 0, 40, .inl (td 2 g))), (t 5, .inl (ca 0, 40, .inl (td 3 g)))] ++ tw ca t2 g2) := hD
  refine lv_aload_n hx hb d_T_copyFrom_56 rfl (lv_at hl 0 rfl) ?_
  refine lv_aload_n hx hb d_T_copyFrom_57 rfl (lv_at hl 1 rfl) ?_
  refine f_get S cls_T hK hP 6 rfl 7 (by decide) fl_T_blocksRead rfl rfl d_T_copyFrom_58 ?_
  refine f_put S cls_T hK hP hD hS 0 rfl 7 (by decide) fl_T_blocksRead rfl rfl rfl rfl (Nat.le_of_ble_eq_true rfl) d_T_copyFrom_61 (fun H locs hP hD hS => ?_)
  have hP : va_P D classes ([(t 0, .inr (1, [.int (g2 0), .int (g2 1), .int (g2 2), .int (g2 3), .int (g2 4), .int (g2 5), .int (g2 6), .int (g2 7), .ref (t 1), .ref (t 2), .ref (t 3), .ref (t 4), .ref (t 5)])), (t 1, .inl (ca 0, 2, .inl (tb g))), (t 2, .inl (ca 0, 40, .inl (td 0 g))), (t 3, .inl (ca 0, 40, .inl (td 1 g))), (t 4, .inl (ca 0, 40, .inl (td 2 g))), (t 5, .inl (ca 0, 40, .inl (td 3 g)))] ++ tw ca t2 g2) H := hP
  have hD : va_D A ([(t 0, .inr (1, [.int (g2 0), .int (g2 1), .int (g2 2), .int (g2 3), .int (g2 4), .int (g2 5), .int (g2 6), .int (g2 7), .ref (t 1), .ref (t 2), .ref (t 3), .ref (t 4), .ref (t 5)])), (t 1, .inl (ca 0, 2, .inl (tb g))), (t 2, .inl (ca 0, 40, .inl (td 0 g))), (t 3, .inl (ca 0, 40, .inl (td 1 g))), (t 4, .inl (ca 0, 40, .inl (td 2 g))), (t 5, .inl (ca 0, 40, .inl (td 3 g)))] ++ tw ca t2 g2) := hD
  refine lv_aload_n hx hb d_T_copyFrom_64 rfl (lv_at hl 1 rfl) ?_
  refine f_get S cls_T hK hP 6 rfl 8 (by decide) fl_T_blocks rfl rfl d_T_copyFrom_65 ?_
  refine lv_iconst (v := 0) hx hb d_T_copyFrom_68 (by decide) ?_
  refine lv_aload_n hx hb d_T_copyFrom_69 rfl (lv_at hl 0 rfl) ?_
  refine f_get S cls_T hK hP 0 rfl 8 (by decide) fl_T_blocks rfl rfl d_T_copyFrom_70 ?_
  refine lv_iconst (v := 0) hx hb d_T_copyFrom_73 (by decide) ?_
  refine lv_iconst (v := 2) hx hb d_T_copyFrom_74 (by decide) ?_
  refine va_copyi (D := D) (f := tb g2) (g := tb g) hx hb (hml.trans hl.1.symm) hown (hts _ kx_T_52) (hts _ xn_System_arraycopy) (hts _ xs_System_arraycopy) (hts _ in_java_lang_System) hK hP hD hS 7 1 0 0 rfl rfl rfl rfl rfl (by decide) (by decide) (by decide) (by decide) (by decide) (fun _ _ => rfl) (Nat.le_of_ble_eq_true rfl) (Nat.le_of_ble_eq_true rfl) d_T_copyFrom_75 (fun H locs hP hD hS => ?_)
  rw [show va_cpy (tb g2) (tb g) (0 : Int32).toNatClampNeg (0 : Int32).toNatClampNeg (2 : Int32).toNatClampNeg = tb g2 from cpy_tb] at hP hD
  have hP : va_P D classes ([(t 0, .inr (1, [.int (g2 0), .int (g2 1), .int (g2 2), .int (g2 3), .int (g2 4), .int (g2 5), .int (g2 6), .int (g2 7), .ref (t 1), .ref (t 2), .ref (t 3), .ref (t 4), .ref (t 5)])), (t 1, .inl (ca 0, 2, .inl (tb g2))), (t 2, .inl (ca 0, 40, .inl (td 0 g))), (t 3, .inl (ca 0, 40, .inl (td 1 g))), (t 4, .inl (ca 0, 40, .inl (td 2 g))), (t 5, .inl (ca 0, 40, .inl (td 3 g)))] ++ tw ca t2 g2) H := hP
  have hD : va_D A ([(t 0, .inr (1, [.int (g2 0), .int (g2 1), .int (g2 2), .int (g2 3), .int (g2 4), .int (g2 5), .int (g2 6), .int (g2 7), .ref (t 1), .ref (t 2), .ref (t 3), .ref (t 4), .ref (t 5)])), (t 1, .inl (ca 0, 2, .inl (tb g2))), (t 2, .inl (ca 0, 40, .inl (td 0 g))), (t 3, .inl (ca 0, 40, .inl (td 1 g))), (t 4, .inl (ca 0, 40, .inl (td 2 g))), (t 5, .inl (ca 0, 40, .inl (td 3 g)))] ++ tw ca t2 g2) := hD
  refine lv_aload_n hx hb d_T_copyFrom_78 rfl (lv_at hl 1 rfl) ?_
  refine f_get S cls_T hK hP 6 rfl 9 (by decide) fl_T_data rfl rfl d_T_copyFrom_79 ?_
  refine lv_iconst (v := 0) hx hb d_T_copyFrom_82 (by decide) ?_
  refine lv_aload_n hx hb d_T_copyFrom_83 rfl (lv_at hl 0 rfl) ?_
  refine f_get S cls_T hK hP 0 rfl 9 (by decide) fl_T_data rfl rfl d_T_copyFrom_84 ?_
  refine lv_iconst (v := 0) hx hb d_T_copyFrom_87 (by decide) ?_
  refine lv_bipush (v := 40) hx hb d_T_copyFrom_88 (by decide) ?_
  refine va_copyi (D := D) (f := td 0 g2) (g := td 0 g) hx hb (hml.trans hl.1.symm) hown (hts _ kx_T_52) (hts _ xn_System_arraycopy) (hts _ xs_System_arraycopy) (hts _ in_java_lang_System) hK hP hD hS 8 2 0 0 rfl rfl rfl rfl rfl (by decide) (by decide) (by decide) (by decide) (by decide) (fun _ _ => rfl) (Nat.le_of_ble_eq_true rfl) (Nat.le_of_ble_eq_true rfl) d_T_copyFrom_90 (fun H locs hP hD hS => ?_)
  rw [show va_cpy (td 0 g2) (td 0 g) (0 : Int32).toNatClampNeg (0 : Int32).toNatClampNeg (40 : Int32).toNatClampNeg = td 0 g2 from cpy_td] at hP hD
  have hP : va_P D classes ([(t 0, .inr (1, [.int (g2 0), .int (g2 1), .int (g2 2), .int (g2 3), .int (g2 4), .int (g2 5), .int (g2 6), .int (g2 7), .ref (t 1), .ref (t 2), .ref (t 3), .ref (t 4), .ref (t 5)])), (t 1, .inl (ca 0, 2, .inl (tb g2))), (t 2, .inl (ca 0, 40, .inl (td 0 g2))), (t 3, .inl (ca 0, 40, .inl (td 1 g))), (t 4, .inl (ca 0, 40, .inl (td 2 g))), (t 5, .inl (ca 0, 40, .inl (td 3 g)))] ++ tw ca t2 g2) H := hP
  have hD : va_D A ([(t 0, .inr (1, [.int (g2 0), .int (g2 1), .int (g2 2), .int (g2 3), .int (g2 4), .int (g2 5), .int (g2 6), .int (g2 7), .ref (t 1), .ref (t 2), .ref (t 3), .ref (t 4), .ref (t 5)])), (t 1, .inl (ca 0, 2, .inl (tb g2))), (t 2, .inl (ca 0, 40, .inl (td 0 g2))), (t 3, .inl (ca 0, 40, .inl (td 1 g))), (t 4, .inl (ca 0, 40, .inl (td 2 g))), (t 5, .inl (ca 0, 40, .inl (td 3 g)))] ++ tw ca t2 g2) := hD
  refine lv_aload_n hx hb d_T_copyFrom_93 rfl (lv_at hl 1 rfl) ?_
  refine f_get S cls_T hK hP 6 rfl 10 (by decide) fl_T_sums rfl rfl d_T_copyFrom_94 ?_
  refine lv_iconst (v := 0) hx hb d_T_copyFrom_97 (by decide) ?_
  refine lv_aload_n hx hb d_T_copyFrom_98 rfl (lv_at hl 0 rfl) ?_
  refine f_get S cls_T hK hP 0 rfl 10 (by decide) fl_T_sums rfl rfl d_T_copyFrom_99 ?_
  refine lv_iconst (v := 0) hx hb d_T_copyFrom_102 (by decide) ?_
  refine lv_bipush (v := 40) hx hb d_T_copyFrom_103 (by decide) ?_
  refine va_copyi (D := D) (f := td 1 g2) (g := td 1 g) hx hb (hml.trans hl.1.symm) hown (hts _ kx_T_52) (hts _ xn_System_arraycopy) (hts _ xs_System_arraycopy) (hts _ in_java_lang_System) hK hP hD hS 9 3 0 0 rfl rfl rfl rfl rfl (by decide) (by decide) (by decide) (by decide) (by decide) (fun _ _ => rfl) (Nat.le_of_ble_eq_true rfl) (Nat.le_of_ble_eq_true rfl) d_T_copyFrom_105 (fun H locs hP hD hS => ?_)
  rw [show va_cpy (td 1 g2) (td 1 g) (0 : Int32).toNatClampNeg (0 : Int32).toNatClampNeg (40 : Int32).toNatClampNeg = td 1 g2 from cpy_td] at hP hD
  have hP : va_P D classes ([(t 0, .inr (1, [.int (g2 0), .int (g2 1), .int (g2 2), .int (g2 3), .int (g2 4), .int (g2 5), .int (g2 6), .int (g2 7), .ref (t 1), .ref (t 2), .ref (t 3), .ref (t 4), .ref (t 5)])), (t 1, .inl (ca 0, 2, .inl (tb g2))), (t 2, .inl (ca 0, 40, .inl (td 0 g2))), (t 3, .inl (ca 0, 40, .inl (td 1 g2))), (t 4, .inl (ca 0, 40, .inl (td 2 g))), (t 5, .inl (ca 0, 40, .inl (td 3 g)))] ++ tw ca t2 g2) H := hP
  have hD : va_D A ([(t 0, .inr (1, [.int (g2 0), .int (g2 1), .int (g2 2), .int (g2 3), .int (g2 4), .int (g2 5), .int (g2 6), .int (g2 7), .ref (t 1), .ref (t 2), .ref (t 3), .ref (t 4), .ref (t 5)])), (t 1, .inl (ca 0, 2, .inl (tb g2))), (t 2, .inl (ca 0, 40, .inl (td 0 g2))), (t 3, .inl (ca 0, 40, .inl (td 1 g2))), (t 4, .inl (ca 0, 40, .inl (td 2 g))), (t 5, .inl (ca 0, 40, .inl (td 3 g)))] ++ tw ca t2 g2) := hD
  refine lv_aload_n hx hb d_T_copyFrom_108 rfl (lv_at hl 1 rfl) ?_
  refine f_get S cls_T hK hP 6 rfl 11 (by decide) fl_T_marks rfl rfl d_T_copyFrom_109 ?_
  refine lv_iconst (v := 0) hx hb d_T_copyFrom_112 (by decide) ?_
  refine lv_aload_n hx hb d_T_copyFrom_113 rfl (lv_at hl 0 rfl) ?_
  refine f_get S cls_T hK hP 0 rfl 11 (by decide) fl_T_marks rfl rfl d_T_copyFrom_114 ?_
  refine lv_iconst (v := 0) hx hb d_T_copyFrom_117 (by decide) ?_
  refine lv_bipush (v := 40) hx hb d_T_copyFrom_118 (by decide) ?_
  refine va_copyi (D := D) (f := td 2 g2) (g := td 2 g) hx hb (hml.trans hl.1.symm) hown (hts _ kx_T_52) (hts _ xn_System_arraycopy) (hts _ xs_System_arraycopy) (hts _ in_java_lang_System) hK hP hD hS 10 4 0 0 rfl rfl rfl rfl rfl (by decide) (by decide) (by decide) (by decide) (by decide) (fun _ _ => rfl) (Nat.le_of_ble_eq_true rfl) (Nat.le_of_ble_eq_true rfl) d_T_copyFrom_120 (fun H locs hP hD hS => ?_)
  rw [show va_cpy (td 2 g2) (td 2 g) (0 : Int32).toNatClampNeg (0 : Int32).toNatClampNeg (40 : Int32).toNatClampNeg = td 2 g2 from cpy_td] at hP hD
  have hP : va_P D classes ([(t 0, .inr (1, [.int (g2 0), .int (g2 1), .int (g2 2), .int (g2 3), .int (g2 4), .int (g2 5), .int (g2 6), .int (g2 7), .ref (t 1), .ref (t 2), .ref (t 3), .ref (t 4), .ref (t 5)])), (t 1, .inl (ca 0, 2, .inl (tb g2))), (t 2, .inl (ca 0, 40, .inl (td 0 g2))), (t 3, .inl (ca 0, 40, .inl (td 1 g2))), (t 4, .inl (ca 0, 40, .inl (td 2 g2))), (t 5, .inl (ca 0, 40, .inl (td 3 g)))] ++ tw ca t2 g2) H := hP
  have hD : va_D A ([(t 0, .inr (1, [.int (g2 0), .int (g2 1), .int (g2 2), .int (g2 3), .int (g2 4), .int (g2 5), .int (g2 6), .int (g2 7), .ref (t 1), .ref (t 2), .ref (t 3), .ref (t 4), .ref (t 5)])), (t 1, .inl (ca 0, 2, .inl (tb g2))), (t 2, .inl (ca 0, 40, .inl (td 0 g2))), (t 3, .inl (ca 0, 40, .inl (td 1 g2))), (t 4, .inl (ca 0, 40, .inl (td 2 g2))), (t 5, .inl (ca 0, 40, .inl (td 3 g)))] ++ tw ca t2 g2) := hD
  refine lv_aload_n hx hb d_T_copyFrom_123 rfl (lv_at hl 1 rfl) ?_
  refine f_get S cls_T hK hP 6 rfl 12 (by decide) fl_T_timesRead rfl rfl d_T_copyFrom_124 ?_
  refine lv_iconst (v := 0) hx hb d_T_copyFrom_127 (by decide) ?_
  refine lv_aload_n hx hb d_T_copyFrom_128 rfl (lv_at hl 0 rfl) ?_
  refine f_get S cls_T hK hP 0 rfl 12 (by decide) fl_T_timesRead rfl rfl d_T_copyFrom_129 ?_
  refine lv_iconst (v := 0) hx hb d_T_copyFrom_132 (by decide) ?_
  refine lv_bipush (v := 40) hx hb d_T_copyFrom_133 (by decide) ?_
  refine va_copyi (D := D) (f := td 3 g2) (g := td 3 g) hx hb (hml.trans hl.1.symm) hown (hts _ kx_T_52) (hts _ xn_System_arraycopy) (hts _ xs_System_arraycopy) (hts _ in_java_lang_System) hK hP hD hS 11 5 0 0 rfl rfl rfl rfl rfl (by decide) (by decide) (by decide) (by decide) (by decide) (fun _ _ => rfl) (Nat.le_of_ble_eq_true rfl) (Nat.le_of_ble_eq_true rfl) d_T_copyFrom_135 (fun H locs hP hD hS => ?_)
  rw [show va_cpy (td 3 g2) (td 3 g) (0 : Int32).toNatClampNeg (0 : Int32).toNatClampNeg (40 : Int32).toNatClampNeg = td 3 g2 from cpy_td] at hP hD
  have hP : va_P D classes ([(t 0, .inr (1, [.int (g2 0), .int (g2 1), .int (g2 2), .int (g2 3), .int (g2 4), .int (g2 5), .int (g2 6), .int (g2 7), .ref (t 1), .ref (t 2), .ref (t 3), .ref (t 4), .ref (t 5)])), (t 1, .inl (ca 0, 2, .inl (tb g2))), (t 2, .inl (ca 0, 40, .inl (td 0 g2))), (t 3, .inl (ca 0, 40, .inl (td 1 g2))), (t 4, .inl (ca 0, 40, .inl (td 2 g2))), (t 5, .inl (ca 0, 40, .inl (td 3 g2)))] ++ tw ca t2 g2) H := hP
  have hD : va_D A ([(t 0, .inr (1, [.int (g2 0), .int (g2 1), .int (g2 2), .int (g2 3), .int (g2 4), .int (g2 5), .int (g2 6), .int (g2 7), .ref (t 1), .ref (t 2), .ref (t 3), .ref (t 4), .ref (t 5)])), (t 1, .inl (ca 0, 2, .inl (tb g2))), (t 2, .inl (ca 0, 40, .inl (td 0 g2))), (t 3, .inl (ca 0, 40, .inl (td 1 g2))), (t 4, .inl (ca 0, 40, .inl (td 2 g2))), (t 5, .inl (ca 0, 40, .inl (td 3 g2)))] ++ tw ca t2 g2) := hD
  exact hret _ _ _ _ _ d_T_copyFrom_138 rfl hP hD hS
