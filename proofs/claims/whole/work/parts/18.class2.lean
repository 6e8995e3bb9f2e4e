set_option maxHeartbeats 4000000 in
set_option maxRecDepth 100000 in
theorem c_R_readOrder (l : Launch) (D : va_G) (ca : Nat → ClassId) (ro po tx : Nat) (P : Nat → Int32) (pl q : Nat) (ki fi nu su bw : Int32) (hpl : pl ≤ 80) (hq : q ≤ pl) (hCH : CH P pl) : MV l y_R_readOrder b_R_readOrder 1 4 84 D ca [.ref ro] [(ro, .inr (3, [.ref po, .int (nI q), .int (b2 false), .int ki, .int fi, .int nu, .int su, .int bw])), (po, .inr (2, [.ref tx, .int (nI pl)])), (tx, .inl (ca 2, 80, .inl P))] [(ro, .inr (3, [.ref po, .int (nI ((crs P pl q).1)), .int (b2 (crs P pl q).2), .int ((crf P pl q (ki, fi, nu, su, bw)).1), .int ((crf P pl q (ki, fi, nu, su, bw)).2.1), .int ((crf P pl q (ki, fi, nu, su, bw)).2.2.1), .int ((crf P pl q (ki, fi, nu, su, bw)).2.2.2.1), .int ((crf P pl q (ki, fi, nu, su, bw)).2.2.2.2)])), (po, .inr (2, [.ref tx, .int (nI pl)])), (tx, .inl (ca 2, 80, .inl P))] := by
  refine MV.mk rfl (Nat.le_of_ble_eq_true rfl) ?_
  intro p e s m args below meth c Q A S hA hP hD hK
  obtain ⟨hx, hb, hml, hown, hts⟩ := id S
  intro hret ls hl0 hS
  have hl : lv_has ls 1 [(0, .ref ro)] := hl0
  refine lv_aload_n hx hb d_R_readOrder_0 rfl (lv_at hl 0 rfl) ?_
  refine lv_aload_n hx hb d_R_readOrder_1 rfl (lv_at hl 0 rfl) ?_
  refine f_get S cls_R hK hP 0 rfl 0 (by decide) fl_R_pad rfl rfl d_R_readOrder_2 ?_
  refine lv_aload_n hx hb d_R_readOrder_5 rfl (lv_at hl 0 rfl) ?_
  refine f_get S cls_R hK hP 0 rfl 1 (by decide) fl_R_position rfl rfl d_R_readOrder_6 ?_
  refine RO.callV S (c_P_characterAt l D ca  po tx P pl q (by omega) (by omega) (by omega)) k_R_82 hP hK [1, 2] rfl 1 (ci := 2) (fs := [.ref tx, .int (nI pl)]) rfl rfl rfl rfl hl.1 ⟨Nat.le_of_ble_eq_true rfl, Nat.le_of_ble_eq_true rfl⟩ ⟨Nat.zero_le _, Nat.zero_le _⟩ (Nat.le_of_ble_eq_true rfl) d_R_readOrder_9 ?_
  rcases chr_cases (chr P pl q) with hc | hc | hc | hc | hc | ⟨h119, h114, h99, h109, h120⟩
  · rw [hc]
    have hp1 : q + 1 ≤ pl := chr_lt hc (by decide)
    have k1 := (sg_bd (P := P) (n := pl) (a := 48) (b := 49) (q := (q + 1, false)) (by decide) hp1).2
    have k2 := (sg_bd (P := P) (n := pl) (a := 58) (b := 58) (by decide) k1).2
    have k3 := cn_bd (P := P) (n := pl) k2
    have k4 := (sg_bd (P := P) (n := pl) (a := 35) (b := 35) (by decide) k3).2
    refine f_put S cls_R hK hP hD hS 0 rfl 3 (by decide) fl_R_kind rfl rfl (rfl) (rfl) (Nat.le_of_ble_eq_true rfl) d_R_readOrder_12 (fun H locs hP hD hS => ?_)
    have hP : va_P D classes [(ro, .inr (3, [.ref po, .int (nI q), .int (b2 false), .int 119, .int fi, .int nu, .int su, .int bw])), (po, .inr (2, [.ref tx, .int (nI pl)])), (tx, .inl (ca 2, 80, .inl P))] H := hP
    have hD : va_D A [(ro, .inr (3, [.ref po, .int (nI q), .int (b2 false), .int 119, .int fi, .int nu, .int su, .int bw])), (po, .inr (2, [.ref tx, .int (nI pl)])), (tx, .inl (ca 2, 80, .inl P))] := hD
    refine lv_aload_n hx hb d_R_readOrder_15 rfl (lv_at hl 0 rfl) ?_
    refine f_get S cls_R hK hP 0 rfl 3 (by decide) fl_R_kind rfl rfl d_R_readOrder_16 ?_
    refine lv_lookup (tgt := 68) (off := 49) hx hb d_R_readOrder_19 (by decide) (by decide) (by decide) ?_
    refine lv_aload_n hx hb d_R_readOrder_68 rfl (lv_at hl 0 rfl) ?_
    refine lv_dup hx hb d_R_readOrder_69 rfl ?_
    refine f_get S cls_R hK hP 0 rfl 1 (by decide) fl_R_position rfl rfl d_R_readOrder_70 ?_
    refine lv_iconst (v := 1) hx hb d_R_readOrder_73 (by decide) ?_
    refine lv_iadd hx hb d_R_readOrder_74 ?_
    refine lv_tope (z := nI (q + 1)) (nI_add q 1) ?_
    refine f_put S cls_R hK hP hD hS 0 rfl 1 (by decide) fl_R_position rfl rfl (rfl) (rfl) (Nat.le_of_ble_eq_true rfl) d_R_readOrder_75 (fun H locs hP hD hS => ?_)
    have hP : va_P D classes [(ro, .inr (3, [.ref po, .int (nI (q + 1)), .int (b2 false), .int 119, .int fi, .int nu, .int su, .int bw])), (po, .inr (2, [.ref tx, .int (nI pl)])), (tx, .inl (ca 2, 80, .inl P))] H := hP
    have hD : va_D A [(ro, .inr (3, [.ref po, .int (nI (q + 1)), .int (b2 false), .int 119, .int fi, .int nu, .int su, .int bw])), (po, .inr (2, [.ref tx, .int (nI pl)])), (tx, .inl (ca 2, 80, .inl P))] := hD
    refine lv_aload_n hx hb d_R_readOrder_78 rfl (lv_at hl 0 rfl) ?_
    refine lv_bipush (v := 58) hx hb d_R_readOrder_79 (by decide) ?_
    refine MV.callV (wr := []) S (c_R_readFile l D ca  ro po tx P pl (q + 1) false 119 fi nu su bw 58 (by omega) (hp1) (by omega)) k_R_86 hP hD hS hA hK [0, 1, 2] [] rfl rfl (by decide) (by decide) (by decide) 0 (ci := 3) (fs := [.ref po, .int (nI (q + 1)), .int (b2 false), .int 119, .int fi, .int nu, .int su, .int bw]) rfl rfl rfl rfl hl.1 ⟨Nat.le_of_ble_eq_true rfl, Nat.le_of_ble_eq_true rfl⟩ ⟨Nat.zero_le _, Nat.zero_le _⟩ (Nat.le_of_ble_eq_true rfl) d_R_readOrder_81 (fun H locs hP hD hS => ?_)
    have hP : va_P D classes [(ro, .inr (3, [.ref po, .int (nI ((sg P pl 58 58 (sg P pl 48 49 ((q + 1), false))).1)), .int (b2 (sg P pl 58 58 (sg P pl 48 49 ((q + 1), false))).2), .int 119, .int (fl P pl ((q + 1), false)), .int nu, .int su, .int bw])), (po, .inr (2, [.ref tx, .int (nI pl)])), (tx, .inl (ca 2, 80, .inl P))] H := hP
    have hD : va_D A [(ro, .inr (3, [.ref po, .int (nI ((sg P pl 58 58 (sg P pl 48 49 ((q + 1), false))).1)), .int (b2 (sg P pl 58 58 (sg P pl 48 49 ((q + 1), false))).2), .int 119, .int (fl P pl ((q + 1), false)), .int nu, .int su, .int bw])), (po, .inr (2, [.ref tx, .int (nI pl)])), (tx, .inl (ca 2, 80, .inl P))] := hD
    refine lv_aload_n hx hb d_R_readOrder_84 rfl (lv_at hl 0 rfl) ?_
    refine lv_aload_n hx hb d_R_readOrder_85 rfl (lv_at hl 0 rfl) ?_
    refine MI.callV (wr := []) S (c_R_readNumber l D ca  ro po tx P pl ((sg P pl 58 58 (sg P pl 48 49 ((q + 1), false))).1) ((sg P pl 58 58 (sg P pl 48 49 ((q + 1), false))).2) 119 (fl P pl ((q + 1), false)) nu su bw (by omega) (k2) (by omega)) k_R_89 hP hD hS hA hK [0, 1, 2] [] rfl rfl (by decide) (by decide) (by decide) 0 (ci := 3) (fs := [.ref po, .int (nI ((sg P pl 58 58 (sg P pl 48 49 ((q + 1), false))).1)), .int (b2 (sg P pl 58 58 (sg P pl 48 49 ((q + 1), false))).2), .int 119, .int (fl P pl ((q + 1), false)), .int nu, .int su, .int bw]) rfl rfl rfl rfl hl.1 ⟨Nat.le_of_ble_eq_true rfl, Nat.le_of_ble_eq_true rfl⟩ ⟨Nat.zero_le _, Nat.zero_le _⟩ (Nat.le_of_ble_eq_true rfl) d_R_readOrder_86 (fun H locs hP hD hS => ?_)
    have hP : va_P D classes [(ro, .inr (3, [.ref po, .int (nI ((cn P pl (((sg P pl 58 58 (sg P pl 48 49 ((q + 1), false))).1), ((sg P pl 58 58 (sg P pl 48 49 ((q + 1), false))).2))).2.1)), .int (b2 (cn P pl (((sg P pl 58 58 (sg P pl 48 49 ((q + 1), false))).1), ((sg P pl 58 58 (sg P pl 48 49 ((q + 1), false))).2))).2.2), .int 119, .int (fl P pl ((q + 1), false)), .int nu, .int su, .int bw])), (po, .inr (2, [.ref tx, .int (nI pl)])), (tx, .inl (ca 2, 80, .inl P))] H := hP
    have hD : va_D A [(ro, .inr (3, [.ref po, .int (nI ((cn P pl (((sg P pl 58 58 (sg P pl 48 49 ((q + 1), false))).1), ((sg P pl 58 58 (sg P pl 48 49 ((q + 1), false))).2))).2.1)), .int (b2 (cn P pl (((sg P pl 58 58 (sg P pl 48 49 ((q + 1), false))).1), ((sg P pl 58 58 (sg P pl 48 49 ((q + 1), false))).2))).2.2), .int 119, .int (fl P pl ((q + 1), false)), .int nu, .int su, .int bw])), (po, .inr (2, [.ref tx, .int (nI pl)])), (tx, .inl (ca 2, 80, .inl P))] := hD
    refine f_put S cls_R hK hP hD hS 0 rfl 5 (by decide) fl_R_number rfl rfl (rfl) (rfl) (Nat.le_of_ble_eq_true rfl) d_R_readOrder_89 (fun H locs hP hD hS => ?_)
    have hP : va_P D classes [(ro, .inr (3, [.ref po, .int (nI ((cn P pl (((sg P pl 58 58 (sg P pl 48 49 ((q + 1), false))).1), ((sg P pl 58 58 (sg P pl 48 49 ((q + 1), false))).2))).2.1)), .int (b2 (cn P pl (((sg P pl 58 58 (sg P pl 48 49 ((q + 1), false))).1), ((sg P pl 58 58 (sg P pl 48 49 ((q + 1), false))).2))).2.2), .int 119, .int (fl P pl ((q + 1), false)), .int ((cn P pl (((sg P pl 58 58 (sg P pl 48 49 ((q + 1), false))).1), ((sg P pl 58 58 (sg P pl 48 49 ((q + 1), false))).2))).1), .int su, .int bw])), (po, .inr (2, [.ref tx, .int (nI pl)])), (tx, .inl (ca 2, 80, .inl P))] H := hP
    have hD : va_D A [(ro, .inr (3, [.ref po, .int (nI ((cn P pl (((sg P pl 58 58 (sg P pl 48 49 ((q + 1), false))).1), ((sg P pl 58 58 (sg P pl 48 49 ((q + 1), false))).2))).2.1)), .int (b2 (cn P pl (((sg P pl 58 58 (sg P pl 48 49 ((q + 1), false))).1), ((sg P pl 58 58 (sg P pl 48 49 ((q + 1), false))).2))).2.2), .int 119, .int (fl P pl ((q + 1), false)), .int ((cn P pl (((sg P pl 58 58 (sg P pl 48 49 ((q + 1), false))).1), ((sg P pl 58 58 (sg P pl 48 49 ((q + 1), false))).2))).1), .int su, .int bw])), (po, .inr (2, [.ref tx, .int (nI pl)])), (tx, .inl (ca 2, 80, .inl P))] := hD
    refine lv_aload_n hx hb d_R_readOrder_92 rfl (lv_at hl 0 rfl) ?_
    refine lv_bipush (v := 35) hx hb d_R_readOrder_93 (by decide) ?_
    refine MV.callV (wr := []) S (c_R_pass l D ca  ro po tx P pl ((cn P pl (((sg P pl 58 58 (sg P pl 48 49 ((q + 1), false))).1), ((sg P pl 58 58 (sg P pl 48 49 ((q + 1), false))).2))).2.1) ((cn P pl (((sg P pl 58 58 (sg P pl 48 49 ((q + 1), false))).1), ((sg P pl 58 58 (sg P pl 48 49 ((q + 1), false))).2))).2.2) 119 (fl P pl ((q + 1), false)) ((cn P pl (((sg P pl 58 58 (sg P pl 48 49 ((q + 1), false))).1), ((sg P pl 58 58 (sg P pl 48 49 ((q + 1), false))).2))).1) su bw 35 (by omega) (k3) (by omega)) k_R_39 hP hD hS hA hK [0, 1, 2] [] rfl rfl (by decide) (by decide) (by decide) 0 (ci := 3) (fs := [.ref po, .int (nI ((cn P pl (((sg P pl 58 58 (sg P pl 48 49 ((q + 1), false))).1), ((sg P pl 58 58 (sg P pl 48 49 ((q + 1), false))).2))).2.1)), .int (b2 (cn P pl (((sg P pl 58 58 (sg P pl 48 49 ((q + 1), false))).1), ((sg P pl 58 58 (sg P pl 48 49 ((q + 1), false))).2))).2.2), .int 119, .int (fl P pl ((q + 1), false)), .int ((cn P pl (((sg P pl 58 58 (sg P pl 48 49 ((q + 1), false))).1), ((sg P pl 58 58 (sg P pl 48 49 ((q + 1), false))).2))).1), .int su, .int bw]) rfl rfl rfl rfl hl.1 ⟨Nat.le_of_ble_eq_true rfl, Nat.le_of_ble_eq_true rfl⟩ ⟨Nat.zero_le _, Nat.zero_le _⟩ (Nat.le_of_ble_eq_true rfl) d_R_readOrder_95 (fun H locs hP hD hS => ?_)
    have hP : va_P D classes [(ro, .inr (3, [.ref po, .int (nI ((sg P pl 35 35 (((cn P pl (((sg P pl 58 58 (sg P pl 48 49 ((q + 1), false))).1), ((sg P pl 58 58 (sg P pl 48 49 ((q + 1), false))).2))).2.1), ((cn P pl (((sg P pl 58 58 (sg P pl 48 49 ((q + 1), false))).1), ((sg P pl 58 58 (sg P pl 48 49 ((q + 1), false))).2))).2.2))).1)), .int (b2 (sg P pl 35 35 (((cn P pl (((sg P pl 58 58 (sg P pl 48 49 ((q + 1), false))).1), ((sg P pl 58 58 (sg P pl 48 49 ((q + 1), false))).2))).2.1), ((cn P pl (((sg P pl 58 58 (sg P pl 48 49 ((q + 1), false))).1), ((sg P pl 58 58 (sg P pl 48 49 ((q + 1), false))).2))).2.2))).2), .int 119, .int (fl P pl ((q + 1), false)), .int ((cn P pl (((sg P pl 58 58 (sg P pl 48 49 ((q + 1), false))).1), ((sg P pl 58 58 (sg P pl 48 49 ((q + 1), false))).2))).1), .int su, .int bw])), (po, .inr (2, [.ref tx, .int (nI pl)])), (tx, .inl (ca 2, 80, .inl P))] H := hP
    have hD : va_D A [(ro, .inr (3, [.ref po, .int (nI ((sg P pl 35 35 (((cn P pl (((sg P pl 58 58 (sg P pl 48 49 ((q + 1), false))).1), ((sg P pl 58 58 (sg P pl 48 49 ((q + 1), false))).2))).2.1), ((cn P pl (((sg P pl 58 58 (sg P pl 48 49 ((q + 1), false))).1), ((sg P pl 58 58 (sg P pl 48 49 ((q + 1), false))).2))).2.2))).1)), .int (b2 (sg P pl 35 35 (((cn P pl (((sg P pl 58 58 (sg P pl 48 49 ((q + 1), false))).1), ((sg P pl 58 58 (sg P pl 48 49 ((q + 1), false))).2))).2.1), ((cn P pl (((sg P pl 58 58 (sg P pl 48 49 ((q + 1), false))).1), ((sg P pl 58 58 (sg P pl 48 49 ((q + 1), false))).2))).2.2))).2), .int 119, .int (fl P pl ((q + 1), false)), .int ((cn P pl (((sg P pl 58 58 (sg P pl 48 49 ((q + 1), false))).1), ((sg P pl 58 58 (sg P pl 48 49 ((q + 1), false))).2))).1), .int su, .int bw])), (po, .inr (2, [.ref tx, .int (nI pl)])), (tx, .inl (ca 2, 80, .inl P))] := hD
    refine lv_aload_n hx hb d_R_readOrder_98 rfl (lv_at hl 0 rfl) ?_
    refine lv_aload_n hx hb d_R_readOrder_99 rfl (lv_at hl 0 rfl) ?_
    refine MI.callV (wr := []) S (c_R_readNumber l D ca  ro po tx P pl ((sg P pl 35 35 (((cn P pl (((sg P pl 58 58 (sg P pl 48 49 ((q + 1), false))).1), ((sg P pl 58 58 (sg P pl 48 49 ((q + 1), false))).2))).2.1), ((cn P pl (((sg P pl 58 58 (sg P pl 48 49 ((q + 1), false))).1), ((sg P pl 58 58 (sg P pl 48 49 ((q + 1), false))).2))).2.2))).1) ((sg P pl 35 35 (((cn P pl (((sg P pl 58 58 (sg P pl 48 49 ((q + 1), false))).1), ((sg P pl 58 58 (sg P pl 48 49 ((q + 1), false))).2))).2.1), ((cn P pl (((sg P pl 58 58 (sg P pl 48 49 ((q + 1), false))).1), ((sg P pl 58 58 (sg P pl 48 49 ((q + 1), false))).2))).2.2))).2) 119 (fl P pl ((q + 1), false)) ((cn P pl (((sg P pl 58 58 (sg P pl 48 49 ((q + 1), false))).1), ((sg P pl 58 58 (sg P pl 48 49 ((q + 1), false))).2))).1) su bw (by omega) (k4) (by omega)) k_R_89 hP hD hS hA hK [0, 1, 2] [] rfl rfl (by decide) (by decide) (by decide) 0 (ci := 3) (fs := [.ref po, .int (nI ((sg P pl 35 35 (((cn P pl (((sg P pl 58 58 (sg P pl 48 49 ((q + 1), false))).1), ((sg P pl 58 58 (sg P pl 48 49 ((q + 1), false))).2))).2.1), ((cn P pl (((sg P pl 58 58 (sg P pl 48 49 ((q + 1), false))).1), ((sg P pl 58 58 (sg P pl 48 49 ((q + 1), false))).2))).2.2))).1)), .int (b2 (sg P pl 35 35 (((cn P pl (((sg P pl 58 58 (sg P pl 48 49 ((q + 1), false))).1), ((sg P pl 58 58 (sg P pl 48 49 ((q + 1), false))).2))).2.1), ((cn P pl (((sg P pl 58 58 (sg P pl 48 49 ((q + 1), false))).1), ((sg P pl 58 58 (sg P pl 48 49 ((q + 1), false))).2))).2.2))).2), .int 119, .int (fl P pl ((q + 1), false)), .int ((cn P pl (((sg P pl 58 58 (sg P pl 48 49 ((q + 1), false))).1), ((sg P pl 58 58 (sg P pl 48 49 ((q + 1), false))).2))).1), .int su, .int bw]) rfl rfl rfl rfl hl.1 ⟨Nat.le_of_ble_eq_true rfl, Nat.le_of_ble_eq_true rfl⟩ ⟨Nat.zero_le _, Nat.zero_le _⟩ (Nat.le_of_ble_eq_true rfl) d_R_readOrder_100 (fun H locs hP hD hS => ?_)
    have hP : va_P D classes [(ro, .inr (3, [.ref po, .int (nI ((cn P pl (((sg P pl 35 35 (((cn P pl (((sg P pl 58 58 (sg P pl 48 49 ((q + 1), false))).1), ((sg P pl 58 58 (sg P pl 48 49 ((q + 1), false))).2))).2.1), ((cn P pl (((sg P pl 58 58 (sg P pl 48 49 ((q + 1), false))).1), ((sg P pl 58 58 (sg P pl 48 49 ((q + 1), false))).2))).2.2))).1), ((sg P pl 35 35 (((cn P pl (((sg P pl 58 58 (sg P pl 48 49 ((q + 1), false))).1), ((sg P pl 58 58 (sg P pl 48 49 ((q + 1), false))).2))).2.1), ((cn P pl (((sg P pl 58 58 (sg P pl 48 49 ((q + 1), false))).1), ((sg P pl 58 58 (sg P pl 48 49 ((q + 1), false))).2))).2.2))).2))).2.1)), .int (b2 (cn P pl (((sg P pl 35 35 (((cn P pl (((sg P pl 58 58 (sg P pl 48 49 ((q + 1), false))).1), ((sg P pl 58 58 (sg P pl 48 49 ((q + 1), false))).2))).2.1), ((cn P pl (((sg P pl 58 58 (sg P pl 48 49 ((q + 1), false))).1), ((sg P pl 58 58 (sg P pl 48 49 ((q + 1), false))).2))).2.2))).1), ((sg P pl 35 35 (((cn P pl (((sg P pl 58 58 (sg P pl 48 49 ((q + 1), false))).1), ((sg P pl 58 58 (sg P pl 48 49 ((q + 1), false))).2))).2.1), ((cn P pl (((sg P pl 58 58 (sg P pl 48 49 ((q + 1), false))).1), ((sg P pl 58 58 (sg P pl 48 49 ((q + 1), false))).2))).2.2))).2))).2.2), .int 119, .int (fl P pl ((q + 1), false)), .int ((cn P pl (((sg P pl 58 58 (sg P pl 48 49 ((q + 1), false))).1), ((sg P pl 58 58 (sg P pl 48 49 ((q + 1), false))).2))).1), .int su, .int bw])), (po, .inr (2, [.ref tx, .int (nI pl)])), (tx, .inl (ca 2, 80, .inl P))] H := hP
    have hD : va_D A [(ro, .inr (3, [.ref po, .int (nI ((cn P pl (((sg P pl 35 35 (((cn P pl (((sg P pl 58 58 (sg P pl 48 49 ((q + 1), false))).1), ((sg P pl 58 58 (sg P pl 48 49 ((q + 1), false))).2))).2.1), ((cn P pl (((sg P pl 58 58 (sg P pl 48 49 ((q + 1), false))).1), ((sg P pl 58 58 (sg P pl 48 49 ((q + 1), false))).2))).2.2))).1), ((sg P pl 35 35 (((cn P pl (((sg P pl 58 58 (sg P pl 48 49 ((q + 1), false))).1), ((sg P pl 58 58 (sg P pl 48 49 ((q + 1), false))).2))).2.1), ((cn P pl (((sg P pl 58 58 (sg P pl 48 49 ((q + 1), false))).1), ((sg P pl 58 58 (sg P pl 48 49 ((q + 1), false))).2))).2.2))).2))).2.1)), .int (b2 (cn P pl (((sg P pl 35 35 (((cn P pl (((sg P pl 58 58 (sg P pl 48 49 ((q + 1), false))).1), ((sg P pl 58 58 (sg P pl 48 49 ((q + 1), false))).2))).2.1), ((cn P pl (((sg P pl 58 58 (sg P pl 48 49 ((q + 1), false))).1), ((sg P pl 58 58 (sg P pl 48 49 ((q + 1), false))).2))).2.2))).1), ((sg P pl 35 35 (((cn P pl (((sg P pl 58 58 (sg P pl 48 49 ((q + 1), false))).1), ((sg P pl 58 58 (sg P pl 48 49 ((q + 1), false))).2))).2.1), ((cn P pl (((sg P pl 58 58 (sg P pl 48 49 ((q + 1), false))).1), ((sg P pl 58 58 (sg P pl 48 49 ((q + 1), false))).2))).2.2))).2))).2.2), .int 119, .int (fl P pl ((q + 1), false)), .int ((cn P pl (((sg P pl 58 58 (sg P pl 48 49 ((q + 1), false))).1), ((sg P pl 58 58 (sg P pl 48 49 ((q + 1), false))).2))).1), .int su, .int bw])), (po, .inr (2, [.ref tx, .int (nI pl)])), (tx, .inl (ca 2, 80, .inl P))] := hD
    refine f_put S cls_R hK hP hD hS 0 rfl 6 (by decide) fl_R_sum rfl rfl (rfl) (rfl) (Nat.le_of_ble_eq_true rfl) d_R_readOrder_103 (fun H locs hP hD hS => ?_)
    have hP : va_P D classes [(ro, .inr (3, [.ref po, .int (nI ((cn P pl (((sg P pl 35 35 (((cn P pl (((sg P pl 58 58 (sg P pl 48 49 ((q + 1), false))).1), ((sg P pl 58 58 (sg P pl 48 49 ((q + 1), false))).2))).2.1), ((cn P pl (((sg P pl 58 58 (sg P pl 48 49 ((q + 1), false))).1), ((sg P pl 58 58 (sg P pl 48 49 ((q + 1), false))).2))).2.2))).1), ((sg P pl 35 35 (((cn P pl (((sg P pl 58 58 (sg P pl 48 49 ((q + 1), false))).1), ((sg P pl 58 58 (sg P pl 48 49 ((q + 1), false))).2))).2.1), ((cn P pl (((sg P pl 58 58 (sg P pl 48 49 ((q + 1), false))).1), ((sg P pl 58 58 (sg P pl 48 49 ((q + 1), false))).2))).2.2))).2))).2.1)), .int (b2 (cn P pl (((sg P pl 35 35 (((cn P pl (((sg P pl 58 58 (sg P pl 48 49 ((q + 1), false))).1), ((sg P pl 58 58 (sg P pl 48 49 ((q + 1), false))).2))).2.1), ((cn P pl (((sg P pl 58 58 (sg P pl 48 49 ((q + 1), false))).1), ((sg P pl 58 58 (sg P pl 48 49 ((q + 1), false))).2))).2.2))).1), ((sg P pl 35 35 (((cn P pl (((sg P pl 58 58 (sg P pl 48 49 ((q + 1), false))).1), ((sg P pl 58 58 (sg P pl 48 49 ((q + 1), false))).2))).2.1), ((cn P pl (((sg P pl 58 58 (sg P pl 48 49 ((q + 1), false))).1), ((sg P pl 58 58 (sg P pl 48 49 ((q + 1), false))).2))).2.2))).2))).2.2), .int 119, .int (fl P pl ((q + 1), false)), .int ((cn P pl (((sg P pl 58 58 (sg P pl 48 49 ((q + 1), false))).1), ((sg P pl 58 58 (sg P pl 48 49 ((q + 1), false))).2))).1), .int ((cn P pl (((sg P pl 35 35 (((cn P pl (((sg P pl 58 58 (sg P pl 48 49 ((q + 1), false))).1), ((sg P pl 58 58 (sg P pl 48 49 ((q + 1), false))).2))).2.1), ((cn P pl (((sg P pl 58 58 (sg P pl 48 49 ((q + 1), false))).1), ((sg P pl 58 58 (sg P pl 48 49 ((q + 1), false))).2))).2.2))).1), ((sg P pl 35 35 (((cn P pl (((sg P pl 58 58 (sg P pl 48 49 ((q + 1), false))).1), ((sg P pl 58 58 (sg P pl 48 49 ((q + 1), false))).2))).2.1), ((cn P pl (((sg P pl 58 58 (sg P pl 48 49 ((q + 1), false))).1), ((sg P pl 58 58 (sg P pl 48 49 ((q + 1), false))).2))).2.2))).2))).1), .int bw])), (po, .inr (2, [.ref tx, .int (nI pl)])), (tx, .inl (ca 2, 80, .inl P))] H := hP
    have hD : va_D A [(ro, .inr (3, [.ref po, .int (nI ((cn P pl (((sg P pl 35 35 (((cn P pl (((sg P pl 58 58 (sg P pl 48 49 ((q + 1), false))).1), ((sg P pl 58 58 (sg P pl 48 49 ((q + 1), false))).2))).2.1), ((cn P pl (((sg P pl 58 58 (sg P pl 48 49 ((q + 1), false))).1), ((sg P pl 58 58 (sg P pl 48 49 ((q + 1), false))).2))).2.2))).1), ((sg P pl 35 35 (((cn P pl (((sg P pl 58 58 (sg P pl 48 49 ((q + 1), false))).1), ((sg P pl 58 58 (sg P pl 48 49 ((q + 1), false))).2))).2.1), ((cn P pl (((sg P pl 58 58 (sg P pl 48 49 ((q + 1), false))).1), ((sg P pl 58 58 (sg P pl 48 49 ((q + 1), false))).2))).2.2))).2))).2.1)), .int (b2 (cn P pl (((sg P pl 35 35 (((cn P pl (((sg P pl 58 58 (sg P pl 48 49 ((q + 1), false))).1), ((sg P pl 58 58 (sg P pl 48 49 ((q + 1), false))).2))).2.1), ((cn P pl (((sg P pl 58 58 (sg P pl 48 49 ((q + 1), false))).1), ((sg P pl 58 58 (sg P pl 48 49 ((q + 1), false))).2))).2.2))).1), ((sg P pl 35 35 (((cn P pl (((sg P pl 58 58 (sg P pl 48 49 ((q + 1), false))).1), ((sg P pl 58 58 (sg P pl 48 49 ((q + 1), false))).2))).2.1), ((cn P pl (((sg P pl 58 58 (sg P pl 48 49 ((q + 1), false))).1), ((sg P pl 58 58 (sg P pl 48 49 ((q + 1), false))).2))).2.2))).2))).2.2), .int 119, .int (fl P pl ((q + 1), false)), .int ((cn P pl (((sg P pl 58 58 (sg P pl 48 49 ((q + 1), false))).1), ((sg P pl 58 58 (sg P pl 48 49 ((q + 1), false))).2))).1), .int ((cn P pl (((sg P pl 35 35 (((cn P pl (((sg P pl 58 58 (sg P pl 48 49 ((q + 1), false))).1), ((sg P pl 58 58 (sg P pl 48 49 ((q + 1), false))).2))).2.1), ((cn P pl (((sg P pl 58 58 (sg P pl 48 49 ((q + 1), false))).1), ((sg P pl 58 58 (sg P pl 48 49 ((q + 1), false))).2))).2.2))).1), ((sg P pl 35 35 (((cn P pl (((sg P pl 58 58 (sg P pl 48 49 ((q + 1), false))).1), ((sg P pl 58 58 (sg P pl 48 49 ((q + 1), false))).2))).2.1), ((cn P pl (((sg P pl 58 58 (sg P pl 48 49 ((q + 1), false))).1), ((sg P pl 58 58 (sg P pl 48 49 ((q + 1), false))).2))).2.2))).2))).1), .int bw])), (po, .inr (2, [.ref tx, .int (nI pl)])), (tx, .inl (ca 2, 80, .inl P))] := hD
    refine lv_goto (tgt := 220) hx hb d_R_readOrder_106 (by decide) ?_
    exact hret _ _ _ _ _ d_R_readOrder_220 (by first | (simp only [crs, crf, b2, Bool.false_eq_true, hc, ↓reduceIte]; done) | (simp only [crs, crf, b2, Bool.false_eq_true, hc, ↓reduceIte]; rfl) | rfl) hP hD hS
  · rw [hc]
    have hp1 : q + 1 ≤ pl := chr_lt hc (by decide)
    have k1 := (sg_bd (P := P) (n := pl) (a := 48) (b := 49) (q := (q + 1, false)) (by decide) hp1).2
    have k2 := (sg_bd (P := P) (n := pl) (a := 46) (b := 46) (by decide) k1).2
    have k3 := cn_bd (P := P) (n := pl) k2
    refine f_put S cls_R hK hP hD hS 0 rfl 3 (by decide) fl_R_kind rfl rfl (rfl) (rfl) (Nat.le_of_ble_eq_true rfl) d_R_readOrder_12 (fun H locs hP hD hS => ?_)
    have hP : va_P D classes [(ro, .inr (3, [.ref po, .int (nI q), .int (b2 false), .int 114, .int fi, .int nu, .int su, .int bw])), (po, .inr (2, [.ref tx, .int (nI pl)])), (tx, .inl (ca 2, 80, .inl P))] H := hP
    have hD : va_D A [(ro, .inr (3, [.ref po, .int (nI q), .int (b2 false), .int 114, .int fi, .int nu, .int su, .int bw])), (po, .inr (2, [.ref tx, .int (nI pl)])), (tx, .inl (ca 2, 80, .inl P))] := hD
    refine lv_aload_n hx hb d_R_readOrder_15 rfl (lv_at hl 0 rfl) ?_
    refine f_get S cls_R hK hP 0 rfl 3 (by decide) fl_R_kind rfl rfl d_R_readOrder_16 ?_
    refine lv_lookup (tgt := 109) (off := 90) hx hb d_R_readOrder_19 (by decide) (by decide) (by decide) ?_
    refine lv_aload_n hx hb d_R_readOrder_109 rfl (lv_at hl 0 rfl) ?_
    refine lv_dup hx hb d_R_readOrder_110 rfl ?_
    refine f_get S cls_R hK hP 0 rfl 1 (by decide) fl_R_position rfl rfl d_R_readOrder_111 ?_
    refine lv_iconst (v := 1) hx hb d_R_readOrder_114 (by decide) ?_
    refine lv_iadd hx hb d_R_readOrder_115 ?_
    refine lv_tope (z := nI (q + 1)) (nI_add q 1) ?_
    refine f_put S cls_R hK hP hD hS 0 rfl 1 (by decide) fl_R_position rfl rfl (rfl) (rfl) (Nat.le_of_ble_eq_true rfl) d_R_readOrder_116 (fun H locs hP hD hS => ?_)
    have hP : va_P D classes [(ro, .inr (3, [.ref po, .int (nI (q + 1)), .int (b2 false), .int 114, .int fi, .int nu, .int su, .int bw])), (po, .inr (2, [.ref tx, .int (nI pl)])), (tx, .inl (ca 2, 80, .inl P))] H := hP
    have hD : va_D A [(ro, .inr (3, [.ref po, .int (nI (q + 1)), .int (b2 false), .int 114, .int fi, .int nu, .int su, .int bw])), (po, .inr (2, [.ref tx, .int (nI pl)])), (tx, .inl (ca 2, 80, .inl P))] := hD
    refine lv_aload_n hx hb d_R_readOrder_119 rfl (lv_at hl 0 rfl) ?_
    refine lv_bipush (v := 46) hx hb d_R_readOrder_120 (by decide) ?_
    refine MV.callV (wr := []) S (c_R_readFile l D ca  ro po tx P pl (q + 1) false 114 fi nu su bw 46 (by omega) (hp1) (by omega)) k_R_86 hP hD hS hA hK [0, 1, 2] [] rfl rfl (by decide) (by decide) (by decide) 0 (ci := 3) (fs := [.ref po, .int (nI (q + 1)), .int (b2 false), .int 114, .int fi, .int nu, .int su, .int bw]) rfl rfl rfl rfl hl.1 ⟨Nat.le_of_ble_eq_true rfl, Nat.le_of_ble_eq_true rfl⟩ ⟨Nat.zero_le _, Nat.zero_le _⟩ (Nat.le_of_ble_eq_true rfl) d_R_readOrder_122 (fun H locs hP hD hS => ?_)
    have hP : va_P D classes [(ro, .inr (3, [.ref po, .int (nI ((sg P pl 46 46 (sg P pl 48 49 ((q + 1), false))).1)), .int (b2 (sg P pl 46 46 (sg P pl 48 49 ((q + 1), false))).2), .int 114, .int (fl P pl ((q + 1), false)), .int nu, .int su, .int bw])), (po, .inr (2, [.ref tx, .int (nI pl)])), (tx, .inl (ca 2, 80, .inl P))] H := hP
    have hD : va_D A [(ro, .inr (3, [.ref po, .int (nI ((sg P pl 46 46 (sg P pl 48 49 ((q + 1), false))).1)), .int (b2 (sg P pl 46 46 (sg P pl 48 49 ((q + 1), false))).2), .int 114, .int (fl P pl ((q + 1), false)), .int nu, .int su, .int bw])), (po, .inr (2, [.ref tx, .int (nI pl)])), (tx, .inl (ca 2, 80, .inl P))] := hD
    refine lv_aload_n hx hb d_R_readOrder_125 rfl (lv_at hl 0 rfl) ?_
    refine lv_aload_n hx hb d_R_readOrder_126 rfl (lv_at hl 0 rfl) ?_
    refine MI.callV (wr := []) S (c_R_readNumber l D ca  ro po tx P pl ((sg P pl 46 46 (sg P pl 48 49 ((q + 1), false))).1) ((sg P pl 46 46 (sg P pl 48 49 ((q + 1), false))).2) 114 (fl P pl ((q + 1), false)) nu su bw (by omega) (k2) (by omega)) k_R_89 hP hD hS hA hK [0, 1, 2] [] rfl rfl (by decide) (by decide) (by decide) 0 (ci := 3) (fs := [.ref po, .int (nI ((sg P pl 46 46 (sg P pl 48 49 ((q + 1), false))).1)), .int (b2 (sg P pl 46 46 (sg P pl 48 49 ((q + 1), false))).2), .int 114, .int (fl P pl ((q + 1), false)), .int nu, .int su, .int bw]) rfl rfl rfl rfl hl.1 ⟨Nat.le_of_ble_eq_true rfl, Nat.le_of_ble_eq_true rfl⟩ ⟨Nat.zero_le _, Nat.zero_le _⟩ (Nat.le_of_ble_eq_true rfl) d_R_readOrder_127 (fun H locs hP hD hS => ?_)
    have hP : va_P D classes [(ro, .inr (3, [.ref po, .int (nI ((cn P pl (((sg P pl 46 46 (sg P pl 48 49 ((q + 1), false))).1), ((sg P pl 46 46 (sg P pl 48 49 ((q + 1), false))).2))).2.1)), .int (b2 (cn P pl (((sg P pl 46 46 (sg P pl 48 49 ((q + 1), false))).1), ((sg P pl 46 46 (sg P pl 48 49 ((q + 1), false))).2))).2.2), .int 114, .int (fl P pl ((q + 1), false)), .int nu, .int su, .int bw])), (po, .inr (2, [.ref tx, .int (nI pl)])), (tx, .inl (ca 2, 80, .inl P))] H := hP
    have hD : va_D A [(ro, .inr (3, [.ref po, .int (nI ((cn P pl (((sg P pl 46 46 (sg P pl 48 49 ((q + 1), false))).1), ((sg P pl 46 46 (sg P pl 48 49 ((q + 1), false))).2))).2.1)), .int (b2 (cn P pl (((sg P pl 46 46 (sg P pl 48 49 ((q + 1), false))).1), ((sg P pl 46 46 (sg P pl 48 49 ((q + 1), false))).2))).2.2), .int 114, .int (fl P pl ((q + 1), false)), .int nu, .int su, .int bw])), (po, .inr (2, [.ref tx, .int (nI pl)])), (tx, .inl (ca 2, 80, .inl P))] := hD
    refine f_put S cls_R hK hP hD hS 0 rfl 5 (by decide) fl_R_number rfl rfl (rfl) (rfl) (Nat.le_of_ble_eq_true rfl) d_R_readOrder_130 (fun H locs hP hD hS => ?_)
    have hP : va_P D classes [(ro, .inr (3, [.ref po, .int (nI ((cn P pl (((sg P pl 46 46 (sg P pl 48 49 ((q + 1), false))).1), ((sg P pl 46 46 (sg P pl 48 49 ((q + 1), false))).2))).2.1)), .int (b2 (cn P pl (((sg P pl 46 46 (sg P pl 48 49 ((q + 1), false))).1), ((sg P pl 46 46 (sg P pl 48 49 ((q + 1), false))).2))).2.2), .int 114, .int (fl P pl ((q + 1), false)), .int ((cn P pl (((sg P pl 46 46 (sg P pl 48 49 ((q + 1), false))).1), ((sg P pl 46 46 (sg P pl 48 49 ((q + 1), false))).2))).1), .int su, .int bw])), (po, .inr (2, [.ref tx, .int (nI pl)])), (tx, .inl (ca 2, 80, .inl P))] H := hP
    have hD : va_D A [(ro, .inr (3, [.ref po, .int (nI ((cn P pl (((sg P pl 46 46 (sg P pl 48 49 ((q + 1), false))).1), ((sg P pl 46 46 (sg P pl 48 49 ((q + 1), false))).2))).2.1)), .int (b2 (cn P pl (((sg P pl 46 46 (sg P pl 48 49 ((q + 1), false))).1), ((sg P pl 46 46 (sg P pl 48 49 ((q + 1), false))).2))).2.2), .int 114, .int (fl P pl ((q + 1), false)), .int ((cn P pl (((sg P pl 46 46 (sg P pl 48 49 ((q + 1), false))).1), ((sg P pl 46 46 (sg P pl 48 49 ((q + 1), false))).2))).1), .int su, .int bw])), (po, .inr (2, [.ref tx, .int (nI pl)])), (tx, .inl (ca 2, 80, .inl P))] := hD
    refine lv_aload_n hx hb d_R_readOrder_133 rfl (lv_at hl 0 rfl) ?_
    refine lv_aload_n hx hb d_R_readOrder_134 rfl (lv_at hl 0 rfl) ?_
    refine lv_bipush (v := 45) hx hb d_R_readOrder_135 (by decide) ?_
    refine MI.callV (wr := []) S (c_R_passIfThere l D ca  ro po tx P pl ((cn P pl (((sg P pl 46 46 (sg P pl 48 49 ((q + 1), false))).1), ((sg P pl 46 46 (sg P pl 48 49 ((q + 1), false))).2))).2.1) ((cn P pl (((sg P pl 46 46 (sg P pl 48 49 ((q + 1), false))).1), ((sg P pl 46 46 (sg P pl 48 49 ((q + 1), false))).2))).2.2) 114 (fl P pl ((q + 1), false)) ((cn P pl (((sg P pl 46 46 (sg P pl 48 49 ((q + 1), false))).1), ((sg P pl 46 46 (sg P pl 48 49 ((q + 1), false))).2))).1) su bw 45 (by omega) (k3) (by omega)) k_R_92 hP hD hS hA hK [0, 1, 2] [] rfl rfl (by decide) (by decide) (by decide) 0 (ci := 3) (fs := [.ref po, .int (nI ((cn P pl (((sg P pl 46 46 (sg P pl 48 49 ((q + 1), false))).1), ((sg P pl 46 46 (sg P pl 48 49 ((q + 1), false))).2))).2.1)), .int (b2 (cn P pl (((sg P pl 46 46 (sg P pl 48 49 ((q + 1), false))).1), ((sg P pl 46 46 (sg P pl 48 49 ((q + 1), false))).2))).2.2), .int 114, .int (fl P pl ((q + 1), false)), .int ((cn P pl (((sg P pl 46 46 (sg P pl 48 49 ((q + 1), false))).1), ((sg P pl 46 46 (sg P pl 48 49 ((q + 1), false))).2))).1), .int su, .int bw]) rfl rfl rfl rfl hl.1 ⟨Nat.le_of_ble_eq_true rfl, Nat.le_of_ble_eq_true rfl⟩ ⟨Nat.zero_le _, Nat.zero_le _⟩ (Nat.le_of_ble_eq_true rfl) d_R_readOrder_137 (fun H locs hP hD hS => ?_)
    have hP : va_P D classes [(ro, .inr (3, [.ref po, .int (nI (ptq P pl 45 (((cn P pl (((sg P pl 46 46 (sg P pl 48 49 ((q + 1), false))).1), ((sg P pl 46 46 (sg P pl 48 49 ((q + 1), false))).2))).2.1), ((cn P pl (((sg P pl 46 46 (sg P pl 48 49 ((q + 1), false))).1), ((sg P pl 46 46 (sg P pl 48 49 ((q + 1), false))).2))).2.2)))), .int (b2 ((cn P pl (((sg P pl 46 46 (sg P pl 48 49 ((q + 1), false))).1), ((sg P pl 46 46 (sg P pl 48 49 ((q + 1), false))).2))).2.2)), .int 114, .int (fl P pl ((q + 1), false)), .int ((cn P pl (((sg P pl 46 46 (sg P pl 48 49 ((q + 1), false))).1), ((sg P pl 46 46 (sg P pl 48 49 ((q + 1), false))).2))).1), .int su, .int bw])), (po, .inr (2, [.ref tx, .int (nI pl)])), (tx, .inl (ca 2, 80, .inl P))] H := hP
    have hD : va_D A [(ro, .inr (3, [.ref po, .int (nI (ptq P pl 45 (((cn P pl (((sg P pl 46 46 (sg P pl 48 49 ((q + 1), false))).1), ((sg P pl 46 46 (sg P pl 48 49 ((q + 1), false))).2))).2.1), ((cn P pl (((sg P pl 46 46 (sg P pl 48 49 ((q + 1), false))).1), ((sg P pl 46 46 (sg P pl 48 49 ((q + 1), false))).2))).2.2)))), .int (b2 ((cn P pl (((sg P pl 46 46 (sg P pl 48 49 ((q + 1), false))).1), ((sg P pl 46 46 (sg P pl 48 49 ((q + 1), false))).2))).2.2)), .int 114, .int (fl P pl ((q + 1), false)), .int ((cn P pl (((sg P pl 46 46 (sg P pl 48 49 ((q + 1), false))).1), ((sg P pl 46 46 (sg P pl 48 49 ((q + 1), false))).2))).1), .int su, .int bw])), (po, .inr (2, [.ref tx, .int (nI pl)])), (tx, .inl (ca 2, 80, .inl P))] := hD
    refine lv_if_eq (tgt := 147) hx hb d_R_readOrder_140 (by decide) (fun c_140 => ?_) (fun c_140 => ?_)
    · have e_140 := b2_z c_140
      refine lv_iconst (v := 0) hx hb d_R_readOrder_147 (by decide) ?_
      refine f_put S cls_R hK hP hD hS 0 rfl 7 (by decide) fl_R_backwards rfl rfl (rfl) (rfl) (Nat.le_of_ble_eq_true rfl) d_R_readOrder_148 (fun H locs hP hD hS => ?_)
      have hP : va_P D classes [(ro, .inr (3, [.ref po, .int (nI (ptq P pl 45 (((cn P pl (((sg P pl 46 46 (sg P pl 48 49 ((q + 1), false))).1), ((sg P pl 46 46 (sg P pl 48 49 ((q + 1), false))).2))).2.1), ((cn P pl (((sg P pl 46 46 (sg P pl 48 49 ((q + 1), false))).1), ((sg P pl 46 46 (sg P pl 48 49 ((q + 1), false))).2))).2.2)))), .int (b2 ((cn P pl (((sg P pl 46 46 (sg P pl 48 49 ((q + 1), false))).1), ((sg P pl 46 46 (sg P pl 48 49 ((q + 1), false))).2))).2.2)), .int 114, .int (fl P pl ((q + 1), false)), .int ((cn P pl (((sg P pl 46 46 (sg P pl 48 49 ((q + 1), false))).1), ((sg P pl 46 46 (sg P pl 48 49 ((q + 1), false))).2))).1), .int su, .int 0])), (po, .inr (2, [.ref tx, .int (nI pl)])), (tx, .inl (ca 2, 80, .inl P))] H := hP
      have hD : va_D A [(ro, .inr (3, [.ref po, .int (nI (ptq P pl 45 (((cn P pl (((sg P pl 46 46 (sg P pl 48 49 ((q + 1), false))).1), ((sg P pl 46 46 (sg P pl 48 49 ((q + 1), false))).2))).2.1), ((cn P pl (((sg P pl 46 46 (sg P pl 48 49 ((q + 1), false))).1), ((sg P pl 46 46 (sg P pl 48 49 ((q + 1), false))).2))).2.2)))), .int (b2 ((cn P pl (((sg P pl 46 46 (sg P pl 48 49 ((q + 1), false))).1), ((sg P pl 46 46 (sg P pl 48 49 ((q + 1), false))).2))).2.2)), .int 114, .int (fl P pl ((q + 1), false)), .int ((cn P pl (((sg P pl 46 46 (sg P pl 48 49 ((q + 1), false))).1), ((sg P pl 46 46 (sg P pl 48 49 ((q + 1), false))).2))).1), .int su, .int 0])), (po, .inr (2, [.ref tx, .int (nI pl)])), (tx, .inl (ca 2, 80, .inl P))] := hD
      refine lv_goto (tgt := 220) hx hb d_R_readOrder_151 (by decide) ?_
      exact hret _ _ _ _ _ d_R_readOrder_220 (by first | (simp only [crs, crf, b2, Bool.false_eq_true, hc, e_140, ↓reduceIte]; done) | (simp only [crs, crf, b2, Bool.false_eq_true, hc, e_140, ↓reduceIte]; rfl) | rfl) hP hD hS
    · have e_140 := b2_n c_140
      refine lv_iconst (v := 1) hx hb d_R_readOrder_143 (by decide) ?_
      refine lv_goto (tgt := 148) hx hb d_R_readOrder_144 (by decide) ?_
      refine f_put S cls_R hK hP hD hS 0 rfl 7 (by decide) fl_R_backwards rfl rfl (rfl) (rfl) (Nat.le_of_ble_eq_true rfl) d_R_readOrder_148 (fun H locs hP hD hS => ?_)
      have hP : va_P D classes [(ro, .inr (3, [.ref po, .int (nI (ptq P pl 45 (((cn P pl (((sg P pl 46 46 (sg P pl 48 49 ((q + 1), false))).1), ((sg P pl 46 46 (sg P pl 48 49 ((q + 1), false))).2))).2.1), ((cn P pl (((sg P pl 46 46 (sg P pl 48 49 ((q + 1), false))).1), ((sg P pl 46 46 (sg P pl 48 49 ((q + 1), false))).2))).2.2)))), .int (b2 ((cn P pl (((sg P pl 46 46 (sg P pl 48 49 ((q + 1), false))).1), ((sg P pl 46 46 (sg P pl 48 49 ((q + 1), false))).2))).2.2)), .int 114, .int (fl P pl ((q + 1), false)), .int ((cn P pl (((sg P pl 46 46 (sg P pl 48 49 ((q + 1), false))).1), ((sg P pl 46 46 (sg P pl 48 49 ((q + 1), false))).2))).1), .int su, .int 1])), (po, .inr (2, [.ref tx, .int (nI pl)])), (tx, .inl (ca 2, 80, .inl P))] H := hP
      have hD : va_D A [(ro, .inr (3, [.ref po, .int (nI (ptq P pl 45 (((cn P pl (((sg P pl 46 46 (sg P pl 48 49 ((q + 1), false))).1), ((sg P pl 46 46 (sg P pl 48 49 ((q + 1), false))).2))).2.1), ((cn P pl (((sg P pl 46 46 (sg P pl 48 49 ((q + 1), false))).1), ((sg P pl 46 46 (sg P pl 48 49 ((q + 1), false))).2))).2.2)))), .int (b2 ((cn P pl (((sg P pl 46 46 (sg P pl 48 49 ((q + 1), false))).1), ((sg P pl 46 46 (sg P pl 48 49 ((q + 1), false))).2))).2.2)), .int 114, .int (fl P pl ((q + 1), false)), .int ((cn P pl (((sg P pl 46 46 (sg P pl 48 49 ((q + 1), false))).1), ((sg P pl 46 46 (sg P pl 48 49 ((q + 1), false))).2))).1), .int su, .int 1])), (po, .inr (2, [.ref tx, .int (nI pl)])), (tx, .inl (ca 2, 80, .inl P))] := hD
      refine lv_goto (tgt := 220) hx hb d_R_readOrder_151 (by decide) ?_
      exact hret _ _ _ _ _ d_R_readOrder_220 (by first | (simp only [crs, crf, b2, Bool.false_eq_true, hc, e_140, ↓reduceIte]; done) | (simp only [crs, crf, b2, Bool.false_eq_true, hc, e_140, ↓reduceIte]; rfl) | rfl) hP hD hS
  · rw [hc]
    have hp1 : q + 1 ≤ pl := chr_lt hc (by decide)
    have k1 := (sg_bd (P := P) (n := pl) (a := 48) (b := 49) (q := (q + 1, false)) (by decide) hp1).2
    have k2 := (sg_bd (P := P) (n := pl) (a := 46) (b := 46) (by decide) k1).2
    have k3 := cn_bd (P := P) (n := pl) k2
    refine f_put S cls_R hK hP hD hS 0 rfl 3 (by decide) fl_R_kind rfl rfl (rfl) (rfl) (Nat.le_of_ble_eq_true rfl) d_R_readOrder_12 (fun H locs hP hD hS => ?_)
    have hP : va_P D classes [(ro, .inr (3, [.ref po, .int (nI q), .int (b2 false), .int 99, .int fi, .int nu, .int su, .int bw])), (po, .inr (2, [.ref tx, .int (nI pl)])), (tx, .inl (ca 2, 80, .inl P))] H := hP
    have hD : va_D A [(ro, .inr (3, [.ref po, .int (nI q), .int (b2 false), .int 99, .int fi, .int nu, .int su, .int bw])), (po, .inr (2, [.ref tx, .int (nI pl)])), (tx, .inl (ca 2, 80, .inl P))] := hD
    refine lv_aload_n hx hb d_R_readOrder_15 rfl (lv_at hl 0 rfl) ?_
    refine f_get S cls_R hK hP 0 rfl 3 (by decide) fl_R_kind rfl rfl d_R_readOrder_16 ?_
    refine lv_lookup (tgt := 154) (off := 135) hx hb d_R_readOrder_19 (by decide) (by decide) (by decide) ?_
    refine lv_aload_n hx hb d_R_readOrder_154 rfl (lv_at hl 0 rfl) ?_
    refine lv_dup hx hb d_R_readOrder_155 rfl ?_
    refine f_get S cls_R hK hP 0 rfl 1 (by decide) fl_R_position rfl rfl d_R_readOrder_156 ?_
    refine lv_iconst (v := 1) hx hb d_R_readOrder_159 (by decide) ?_
    refine lv_iadd hx hb d_R_readOrder_160 ?_
    refine lv_tope (z := nI (q + 1)) (nI_add q 1) ?_
    refine f_put S cls_R hK hP hD hS 0 rfl 1 (by decide) fl_R_position rfl rfl (rfl) (rfl) (Nat.le_of_ble_eq_true rfl) d_R_readOrder_161 (fun H locs hP hD hS => ?_)
    have hP : va_P D classes [(ro, .inr (3, [.ref po, .int (nI (q + 1)), .int (b2 false), .int 99, .int fi, .int nu, .int su, .int bw])), (po, .inr (2, [.ref tx, .int (nI pl)])), (tx, .inl (ca 2, 80, .inl P))] H := hP
    have hD : va_D A [(ro, .inr (3, [.ref po, .int (nI (q + 1)), .int (b2 false), .int 99, .int fi, .int nu, .int su, .int bw])), (po, .inr (2, [.ref tx, .int (nI pl)])), (tx, .inl (ca 2, 80, .inl P))] := hD
    refine lv_aload_n hx hb d_R_readOrder_164 rfl (lv_at hl 0 rfl) ?_
    refine lv_bipush (v := 46) hx hb d_R_readOrder_165 (by decide) ?_
    refine MV.callV (wr := []) S (c_R_readFile l D ca  ro po tx P pl (q + 1) false 99 fi nu su bw 46 (by omega) (hp1) (by omega)) k_R_86 hP hD hS hA hK [0, 1, 2] [] rfl rfl (by decide) (by decide) (by decide) 0 (ci := 3) (fs := [.ref po, .int (nI (q + 1)), .int (b2 false), .int 99, .int fi, .int nu, .int su, .int bw]) rfl rfl rfl rfl hl.1 ⟨Nat.le_of_ble_eq_true rfl, Nat.le_of_ble_eq_true rfl⟩ ⟨Nat.zero_le _, Nat.zero_le _⟩ (Nat.le_of_ble_eq_true rfl) d_R_readOrder_167 (fun H locs hP hD hS => ?_)
    have hP : va_P D classes [(ro, .inr (3, [.ref po, .int (nI ((sg P pl 46 46 (sg P pl 48 49 ((q + 1), false))).1)), .int (b2 (sg P pl 46 46 (sg P pl 48 49 ((q + 1), false))).2), .int 99, .int (fl P pl ((q + 1), false)), .int nu, .int su, .int bw])), (po, .inr (2, [.ref tx, .int (nI pl)])), (tx, .inl (ca 2, 80, .inl P))] H := hP
    have hD : va_D A [(ro, .inr (3, [.ref po, .int (nI ((sg P pl 46 46 (sg P pl 48 49 ((q + 1), false))).1)), .int (b2 (sg P pl 46 46 (sg P pl 48 49 ((q + 1), false))).2), .int 99, .int (fl P pl ((q + 1), false)), .int nu, .int su, .int bw])), (po, .inr (2, [.ref tx, .int (nI pl)])), (tx, .inl (ca 2, 80, .inl P))] := hD
    refine lv_aload_n hx hb d_R_readOrder_170 rfl (lv_at hl 0 rfl) ?_
    refine lv_aload_n hx hb d_R_readOrder_171 rfl (lv_at hl 0 rfl) ?_
    refine MI.callV (wr := []) S (c_R_readNumber l D ca  ro po tx P pl ((sg P pl 46 46 (sg P pl 48 49 ((q + 1), false))).1) ((sg P pl 46 46 (sg P pl 48 49 ((q + 1), false))).2) 99 (fl P pl ((q + 1), false)) nu su bw (by omega) (k2) (by omega)) k_R_89 hP hD hS hA hK [0, 1, 2] [] rfl rfl (by decide) (by decide) (by decide) 0 (ci := 3) (fs := [.ref po, .int (nI ((sg P pl 46 46 (sg P pl 48 49 ((q + 1), false))).1)), .int (b2 (sg P pl 46 46 (sg P pl 48 49 ((q + 1), false))).2), .int 99, .int (fl P pl ((q + 1), false)), .int nu, .int su, .int bw]) rfl rfl rfl rfl hl.1 ⟨Nat.le_of_ble_eq_true rfl, Nat.le_of_ble_eq_true rfl⟩ ⟨Nat.zero_le _, Nat.zero_le _⟩ (Nat.le_of_ble_eq_true rfl) d_R_readOrder_172 (fun H locs hP hD hS => ?_)
    have hP : va_P D classes [(ro, .inr (3, [.ref po, .int (nI ((cn P pl (((sg P pl 46 46 (sg P pl 48 49 ((q + 1), false))).1), ((sg P pl 46 46 (sg P pl 48 49 ((q + 1), false))).2))).2.1)), .int (b2 (cn P pl (((sg P pl 46 46 (sg P pl 48 49 ((q + 1), false))).1), ((sg P pl 46 46 (sg P pl 48 49 ((q + 1), false))).2))).2.2), .int 99, .int (fl P pl ((q + 1), false)), .int nu, .int su, .int bw])), (po, .inr (2, [.ref tx, .int (nI pl)])), (tx, .inl (ca 2, 80, .inl P))] H := hP
    have hD : va_D A [(ro, .inr (3, [.ref po, .int (nI ((cn P pl (((sg P pl 46 46 (sg P pl 48 49 ((q + 1), false))).1), ((sg P pl 46 46 (sg P pl 48 49 ((q + 1), false))).2))).2.1)), .int (b2 (cn P pl (((sg P pl 46 46 (sg P pl 48 49 ((q + 1), false))).1), ((sg P pl 46 46 (sg P pl 48 49 ((q + 1), false))).2))).2.2), .int 99, .int (fl P pl ((q + 1), false)), .int nu, .int su, .int bw])), (po, .inr (2, [.ref tx, .int (nI pl)])), (tx, .inl (ca 2, 80, .inl P))] := hD
    refine f_put S cls_R hK hP hD hS 0 rfl 5 (by decide) fl_R_number rfl rfl (rfl) (rfl) (Nat.le_of_ble_eq_true rfl) d_R_readOrder_175 (fun H locs hP hD hS => ?_)
    have hP : va_P D classes [(ro, .inr (3, [.ref po, .int (nI ((cn P pl (((sg P pl 46 46 (sg P pl 48 49 ((q + 1), false))).1), ((sg P pl 46 46 (sg P pl 48 49 ((q + 1), false))).2))).2.1)), .int (b2 (cn P pl (((sg P pl 46 46 (sg P pl 48 49 ((q + 1), false))).1), ((sg P pl 46 46 (sg P pl 48 49 ((q + 1), false))).2))).2.2), .int 99, .int (fl P pl ((q + 1), false)), .int ((cn P pl (((sg P pl 46 46 (sg P pl 48 49 ((q + 1), false))).1), ((sg P pl 46 46 (sg P pl 48 49 ((q + 1), false))).2))).1), .int su, .int bw])), (po, .inr (2, [.ref tx, .int (nI pl)])), (tx, .inl (ca 2, 80, .inl P))] H := hP
    have hD : va_D A [(ro, .inr (3, [.ref po, .int (nI ((cn P pl (((sg P pl 46 46 (sg P pl 48 49 ((q + 1), false))).1), ((sg P pl 46 46 (sg P pl 48 49 ((q + 1), false))).2))).2.1)), .int (b2 (cn P pl (((sg P pl 46 46 (sg P pl 48 49 ((q + 1), false))).1), ((sg P pl 46 46 (sg P pl 48 49 ((q + 1), false))).2))).2.2), .int 99, .int (fl P pl ((q + 1), false)), .int ((cn P pl (((sg P pl 46 46 (sg P pl 48 49 ((q + 1), false))).1), ((sg P pl 46 46 (sg P pl 48 49 ((q + 1), false))).2))).1), .int su, .int bw])), (po, .inr (2, [.ref tx, .int (nI pl)])), (tx, .inl (ca 2, 80, .inl P))] := hD
    refine lv_goto (tgt := 220) hx hb d_R_readOrder_178 (by decide) ?_
    exact hret _ _ _ _ _ d_R_readOrder_220 (by first | (simp only [crs, crf, b2, Bool.false_eq_true, hc, ↓reduceIte]; done) | (simp only [crs, crf, b2, Bool.false_eq_true, hc, ↓reduceIte]; rfl) | rfl) hP hD hS
  · rw [hc]
    have hp1 : q + 1 ≤ pl := chr_lt hc (by decide)
    refine f_put S cls_R hK hP hD hS 0 rfl 3 (by decide) fl_R_kind rfl rfl (rfl) (rfl) (Nat.le_of_ble_eq_true rfl) d_R_readOrder_12 (fun H locs hP hD hS => ?_)
    have hP : va_P D classes [(ro, .inr (3, [.ref po, .int (nI q), .int (b2 false), .int 109, .int fi, .int nu, .int su, .int bw])), (po, .inr (2, [.ref tx, .int (nI pl)])), (tx, .inl (ca 2, 80, .inl P))] H := hP
    have hD : va_D A [(ro, .inr (3, [.ref po, .int (nI q), .int (b2 false), .int 109, .int fi, .int nu, .int su, .int bw])), (po, .inr (2, [.ref tx, .int (nI pl)])), (tx, .inl (ca 2, 80, .inl P))] := hD
    refine lv_aload_n hx hb d_R_readOrder_15 rfl (lv_at hl 0 rfl) ?_
    refine f_get S cls_R hK hP 0 rfl 3 (by decide) fl_R_kind rfl rfl d_R_readOrder_16 ?_
    refine lv_lookup (tgt := 181) (off := 162) hx hb d_R_readOrder_19 (by decide) (by decide) (by decide) ?_
    refine lv_aload_n hx hb d_R_readOrder_181 rfl (lv_at hl 0 rfl) ?_
    refine lv_dup hx hb d_R_readOrder_182 rfl ?_
    refine f_get S cls_R hK hP 0 rfl 1 (by decide) fl_R_position rfl rfl d_R_readOrder_183 ?_
    refine lv_iconst (v := 1) hx hb d_R_readOrder_186 (by decide) ?_
    refine lv_iadd hx hb d_R_readOrder_187 ?_
    refine lv_tope (z := nI (q + 1)) (nI_add q 1) ?_
    refine f_put S cls_R hK hP hD hS 0 rfl 1 (by decide) fl_R_position rfl rfl (rfl) (rfl) (Nat.le_of_ble_eq_true rfl) d_R_readOrder_188 (fun H locs hP hD hS => ?_)
    have hP : va_P D classes [(ro, .inr (3, [.ref po, .int (nI (q + 1)), .int (b2 false), .int 109, .int fi, .int nu, .int su, .int bw])), (po, .inr (2, [.ref tx, .int (nI pl)])), (tx, .inl (ca 2, 80, .inl P))] H := hP
    have hD : va_D A [(ro, .inr (3, [.ref po, .int (nI (q + 1)), .int (b2 false), .int 109, .int fi, .int nu, .int su, .int bw])), (po, .inr (2, [.ref tx, .int (nI pl)])), (tx, .inl (ca 2, 80, .inl P))] := hD
    refine lv_aload_n hx hb d_R_readOrder_191 rfl (lv_at hl 0 rfl) ?_
    refine lv_aload_n hx hb d_R_readOrder_192 rfl (lv_at hl 0 rfl) ?_
    refine MI.callV (wr := []) S (c_R_readNumber l D ca  ro po tx P pl (q + 1) false 109 fi nu su bw (by omega) (hp1) (by omega)) k_R_89 hP hD hS hA hK [0, 1, 2] [] rfl rfl (by decide) (by decide) (by decide) 0 (ci := 3) (fs := [.ref po, .int (nI (q + 1)), .int (b2 false), .int 109, .int fi, .int nu, .int su, .int bw]) rfl rfl rfl rfl hl.1 ⟨Nat.le_of_ble_eq_true rfl, Nat.le_of_ble_eq_true rfl⟩ ⟨Nat.zero_le _, Nat.zero_le _⟩ (Nat.le_of_ble_eq_true rfl) d_R_readOrder_193 (fun H locs hP hD hS => ?_)
    have hP : va_P D classes [(ro, .inr (3, [.ref po, .int (nI ((cn P pl ((q + 1), false)).2.1)), .int (b2 (cn P pl ((q + 1), false)).2.2), .int 109, .int fi, .int nu, .int su, .int bw])), (po, .inr (2, [.ref tx, .int (nI pl)])), (tx, .inl (ca 2, 80, .inl P))] H := hP
    have hD : va_D A [(ro, .inr (3, [.ref po, .int (nI ((cn P pl ((q + 1), false)).2.1)), .int (b2 (cn P pl ((q + 1), false)).2.2), .int 109, .int fi, .int nu, .int su, .int bw])), (po, .inr (2, [.ref tx, .int (nI pl)])), (tx, .inl (ca 2, 80, .inl P))] := hD
    refine f_put S cls_R hK hP hD hS 0 rfl 5 (by decide) fl_R_number rfl rfl (rfl) (rfl) (Nat.le_of_ble_eq_true rfl) d_R_readOrder_196 (fun H locs hP hD hS => ?_)
    have hP : va_P D classes [(ro, .inr (3, [.ref po, .int (nI ((cn P pl ((q + 1), false)).2.1)), .int (b2 (cn P pl ((q + 1), false)).2.2), .int 109, .int fi, .int ((cn P pl ((q + 1), false)).1), .int su, .int bw])), (po, .inr (2, [.ref tx, .int (nI pl)])), (tx, .inl (ca 2, 80, .inl P))] H := hP
    have hD : va_D A [(ro, .inr (3, [.ref po, .int (nI ((cn P pl ((q + 1), false)).2.1)), .int (b2 (cn P pl ((q + 1), false)).2.2), .int 109, .int fi, .int ((cn P pl ((q + 1), false)).1), .int su, .int bw])), (po, .inr (2, [.ref tx, .int (nI pl)])), (tx, .inl (ca 2, 80, .inl P))] := hD
    refine lv_goto (tgt := 220) hx hb d_R_readOrder_199 (by decide) ?_
    exact hret _ _ _ _ _ d_R_readOrder_220 (by first | (simp only [crs, crf, b2, Bool.false_eq_true, hc, ↓reduceIte]; done) | (simp only [crs, crf, b2, Bool.false_eq_true, hc, ↓reduceIte]; rfl) | rfl) hP hD hS
  · rw [hc]
    have hp1 : q + 1 ≤ pl := chr_lt hc (by decide)
    refine f_put S cls_R hK hP hD hS 0 rfl 3 (by decide) fl_R_kind rfl rfl (rfl) (rfl) (Nat.le_of_ble_eq_true rfl) d_R_readOrder_12 (fun H locs hP hD hS => ?_)
    have hP : va_P D classes [(ro, .inr (3, [.ref po, .int (nI q), .int (b2 false), .int 120, .int fi, .int nu, .int su, .int bw])), (po, .inr (2, [.ref tx, .int (nI pl)])), (tx, .inl (ca 2, 80, .inl P))] H := hP
    have hD : va_D A [(ro, .inr (3, [.ref po, .int (nI q), .int (b2 false), .int 120, .int fi, .int nu, .int su, .int bw])), (po, .inr (2, [.ref tx, .int (nI pl)])), (tx, .inl (ca 2, 80, .inl P))] := hD
    refine lv_aload_n hx hb d_R_readOrder_15 rfl (lv_at hl 0 rfl) ?_
    refine f_get S cls_R hK hP 0 rfl 3 (by decide) fl_R_kind rfl rfl d_R_readOrder_16 ?_
    refine lv_lookup (tgt := 202) (off := 183) hx hb d_R_readOrder_19 (by decide) (by decide) (by decide) ?_
    refine lv_aload_n hx hb d_R_readOrder_202 rfl (lv_at hl 0 rfl) ?_
    refine lv_dup hx hb d_R_readOrder_203 rfl ?_
    refine f_get S cls_R hK hP 0 rfl 1 (by decide) fl_R_position rfl rfl d_R_readOrder_204 ?_
    refine lv_iconst (v := 1) hx hb d_R_readOrder_207 (by decide) ?_
    refine lv_iadd hx hb d_R_readOrder_208 ?_
    refine lv_tope (z := nI (q + 1)) (nI_add q 1) ?_
    refine f_put S cls_R hK hP hD hS 0 rfl 1 (by decide) fl_R_position rfl rfl (rfl) (rfl) (Nat.le_of_ble_eq_true rfl) d_R_readOrder_209 (fun H locs hP hD hS => ?_)
    have hP : va_P D classes [(ro, .inr (3, [.ref po, .int (nI (q + 1)), .int (b2 false), .int 120, .int fi, .int nu, .int su, .int bw])), (po, .inr (2, [.ref tx, .int (nI pl)])), (tx, .inl (ca 2, 80, .inl P))] H := hP
    have hD : va_D A [(ro, .inr (3, [.ref po, .int (nI (q + 1)), .int (b2 false), .int 120, .int fi, .int nu, .int su, .int bw])), (po, .inr (2, [.ref tx, .int (nI pl)])), (tx, .inl (ca 2, 80, .inl P))] := hD
    refine lv_goto (tgt := 220) hx hb d_R_readOrder_212 (by decide) ?_
    exact hret _ _ _ _ _ d_R_readOrder_220 (by first | (simp only [crs, crf, b2, Bool.false_eq_true, hc, ↓reduceIte]; done) | (simp only [crs, crf, b2, Bool.false_eq_true, hc, ↓reduceIte]; rfl) | rfl) hP hD hS
  · refine f_put S cls_R hK hP hD hS 0 rfl 3 (by decide) fl_R_kind rfl rfl (nar_chr hCH q) (fit_chr hCH q) (Nat.le_of_ble_eq_true rfl) d_R_readOrder_12 (fun H locs hP hD hS => ?_)
    have hP : va_P D classes [(ro, .inr (3, [.ref po, .int (nI q), .int (b2 false), .int (chr P pl q), .int fi, .int nu, .int su, .int bw])), (po, .inr (2, [.ref tx, .int (nI pl)])), (tx, .inl (ca 2, 80, .inl P))] H := hP
    have hD : va_D A [(ro, .inr (3, [.ref po, .int (nI q), .int (b2 false), .int (chr P pl q), .int fi, .int nu, .int su, .int bw])), (po, .inr (2, [.ref tx, .int (nI pl)])), (tx, .inl (ca 2, 80, .inl P))] := hD
    refine lv_aload_n hx hb d_R_readOrder_15 rfl (lv_at hl 0 rfl) ?_
    refine f_get S cls_R hK hP 0 rfl 3 (by decide) fl_R_kind rfl rfl d_R_readOrder_16 ?_
    refine lv_lookup (tgt := 215) (off := 196) hx hb d_R_readOrder_19 (by decide) (show Op.lookupswitch.offset [(99, 135), (109, 162), (114, 90), (119, 49), (120, 183)] 196 _ = _ from by rw [lv_osw (k := 99) h99 (by decide), lv_osw (k := 109) h109 (by decide), lv_osw (k := 114) h114 (by decide), lv_osw (k := 119) h119 (by decide), lv_osw (k := 120) h120 (by decide)]; rfl) (by decide) ?_
    refine lv_aload_n hx hb d_R_readOrder_215 rfl (lv_at hl 0 rfl) ?_
    refine lv_iconst (v := 1) hx hb d_R_readOrder_216 (by decide) ?_
    refine f_put S cls_R hK hP hD hS 0 rfl 2 (by decide) fl_R_failed rfl rfl (rfl) (rfl) (Nat.le_of_ble_eq_true rfl) d_R_readOrder_217 (fun H locs hP hD hS => ?_)
    have hP : va_P D classes [(ro, .inr (3, [.ref po, .int (nI q), .int 1, .int (chr P pl q), .int fi, .int nu, .int su, .int bw])), (po, .inr (2, [.ref tx, .int (nI pl)])), (tx, .inl (ca 2, 80, .inl P))] H := hP
    have hD : va_D A [(ro, .inr (3, [.ref po, .int (nI q), .int 1, .int (chr P pl q), .int fi, .int nu, .int su, .int bw])), (po, .inr (2, [.ref tx, .int (nI pl)])), (tx, .inl (ca 2, 80, .inl P))] := hD
    exact hret _ _ _ _ _ d_R_readOrder_220 (by first | (simp only [crs, crf, b2, Bool.false_eq_true, h119, h114, h99, h109, h120, ↓reduceIte]; done) | (simp only [crs, crf, b2, Bool.false_eq_true, h119, h114, h99, h109, h120, ↓reduceIte]; rfl) | rfl) hP hD hS
set_option maxHeartbeats 4000000 in
set_option maxRecDepth 100000 in
theorem c_R_readNext (l : Launch) (D : va_G) (ca : Nat → ClassId) (ro po tx : Nat) (P : Nat → Int32) (pl q : Nat) (ki fi nu su bw : Int32) (hpl : pl ≤ 80) (hq : q ≤ pl) (hCH : CH P pl) : MV l y_R_readNext b_R_readNext 1 5 104 D ca [.ref ro] [(ro, .inr (3, [.ref po, .int (nI q), .int (b2 false), .int ki, .int fi, .int nu, .int su, .int bw])), (po, .inr (2, [.ref tx, .int (nI pl)])), (tx, .inl (ca 2, 80, .inl P))] [(ro, .inr (3, [.ref po, .int (nI ((rnx P pl q (ki, fi, nu, su, bw)).1.1)), .int (b2 (rnx P pl q (ki, fi, nu, su, bw)).1.2), .int ((rnx P pl q (ki, fi, nu, su, bw)).2.1), .int ((rnx P pl q (ki, fi, nu, su, bw)).2.2.1), .int ((rnx P pl q (ki, fi, nu, su, bw)).2.2.2.1), .int ((rnx P pl q (ki, fi, nu, su, bw)).2.2.2.2.1), .int ((rnx P pl q (ki, fi, nu, su, bw)).2.2.2.2.2)])), (po, .inr (2, [.ref tx, .int (nI pl)])), (tx, .inl (ca 2, 80, .inl P))] := by
  refine MV.mk rfl (Nat.le_of_ble_eq_true rfl) ?_
  intro p e s m args below meth c Q A S hA hP hD hK
  obtain ⟨hx, hb, hml, hown, hts⟩ := id S
  intro hret ls hl0 hS
  have hl : lv_has ls 1 [(0, .ref ro)] := hl0
  refine lv_aload_n hx hb d_R_readNext_0 rfl (lv_at hl 0 rfl) ?_
  refine f_get S cls_R hK hP 0 rfl 1 (by decide) fl_R_position rfl rfl d_R_readNext_1 ?_
  refine lv_if_le (tgt := 13) hx hb d_R_readNext_4 (by decide) (fun c_4 => ?_) (fun c_4 => ?_)
  · have e_4 : q = 0 := by
      rcases Nat.eq_zero_or_pos q with z | z
      · exact z
      · exact absurd c_4 (nI_nle z (by omega))
    subst e_4
    refine lv_aload_n hx hb d_R_readNext_13 rfl (lv_at hl 0 rfl) ?_
    refine f_get S cls_R hK hP 0 rfl 2 (by decide) fl_R_failed rfl rfl d_R_readNext_14 ?_
    refine lv_if_ne (tgt := 24) hx hb d_R_readNext_17 (by decide) (fun q => absurd (by decide) q) (fun _ => ?_)
    refine lv_aload_n hx hb d_R_readNext_20 rfl (lv_at hl 0 rfl) ?_
    refine MV.callV (wr := []) S (c_R_readOrder l D ca  ro po tx P pl 0 ki fi nu su bw (by omega) (hq) (by omega)) k_R_43 hP hD hS hA hK [0, 1, 2] [] rfl rfl (by decide) (by decide) (by decide) 0 (ci := 3) (fs := [.ref po, .int (nI 0), .int (b2 false), .int ki, .int fi, .int nu, .int su, .int bw]) rfl rfl rfl rfl hl.1 ⟨Nat.le_of_ble_eq_true rfl, Nat.le_of_ble_eq_true rfl⟩ ⟨Nat.zero_le _, Nat.zero_le _⟩ (Nat.le_of_ble_eq_true rfl) d_R_readNext_21 (fun H locs hP hD hS => ?_)
    have hP : va_P D classes [(ro, .inr (3, [.ref po, .int (nI ((crs P pl 0).1)), .int (b2 (crs P pl 0).2), .int ((crf P pl 0 (ki, fi, nu, su, bw)).1), .int ((crf P pl 0 (ki, fi, nu, su, bw)).2.1), .int ((crf P pl 0 (ki, fi, nu, su, bw)).2.2.1), .int ((crf P pl 0 (ki, fi, nu, su, bw)).2.2.2.1), .int ((crf P pl 0 (ki, fi, nu, su, bw)).2.2.2.2)])), (po, .inr (2, [.ref tx, .int (nI pl)])), (tx, .inl (ca 2, 80, .inl P))] H := hP
    have hD : va_D A [(ro, .inr (3, [.ref po, .int (nI ((crs P pl 0).1)), .int (b2 (crs P pl 0).2), .int ((crf P pl 0 (ki, fi, nu, su, bw)).1), .int ((crf P pl 0 (ki, fi, nu, su, bw)).2.1), .int ((crf P pl 0 (ki, fi, nu, su, bw)).2.2.1), .int ((crf P pl 0 (ki, fi, nu, su, bw)).2.2.2.1), .int ((crf P pl 0 (ki, fi, nu, su, bw)).2.2.2.2)])), (po, .inr (2, [.ref tx, .int (nI pl)])), (tx, .inl (ca 2, 80, .inl P))] := hD
    exact hret _ _ _ _ _ d_R_readNext_24 (by first | (simp only [rnx, Bool.false_eq_true, ↓reduceIte]; done) | (simp only [rnx, Bool.false_eq_true, ↓reduceIte]; rfl) | rfl) hP hD hS
  · have e_4 : ¬ q = 0 := fun z => c_4 (by rw [z]; decide)
    refine lv_aload_n hx hb d_R_readNext_7 rfl (lv_at hl 0 rfl) ?_
    refine lv_bipush (v := 59) hx hb d_R_readNext_8 (by decide) ?_
    refine MV.callV (wr := []) S (c_R_pass l D ca  ro po tx P pl q false ki fi nu su bw 59 (by omega) (by omega) (by omega)) k_R_39 hP hD hS hA hK [0, 1, 2] [] rfl rfl (by decide) (by decide) (by decide) 0 (ci := 3) (fs := [.ref po, .int (nI q), .int (b2 false), .int ki, .int fi, .int nu, .int su, .int bw]) rfl rfl rfl rfl hl.1 ⟨Nat.le_of_ble_eq_true rfl, Nat.le_of_ble_eq_true rfl⟩ ⟨Nat.zero_le _, Nat.zero_le _⟩ (Nat.le_of_ble_eq_true rfl) d_R_readNext_10 (fun H locs hP hD hS => ?_)
    have hP : va_P D classes [(ro, .inr (3, [.ref po, .int (nI ((sg P pl 59 59 (q, false)).1)), .int (b2 (sg P pl 59 59 (q, false)).2), .int ki, .int fi, .int nu, .int su, .int bw])), (po, .inr (2, [.ref tx, .int (nI pl)])), (tx, .inl (ca 2, 80, .inl P))] H := hP
    have hD : va_D A [(ro, .inr (3, [.ref po, .int (nI ((sg P pl 59 59 (q, false)).1)), .int (b2 (sg P pl 59 59 (q, false)).2), .int ki, .int fi, .int nu, .int su, .int bw])), (po, .inr (2, [.ref tx, .int (nI pl)])), (tx, .inl (ca 2, 80, .inl P))] := hD
    have hb1 := (sg_bd (P := P) (n := pl) (a := 59) (b := 59) (q := (q, false)) (by decide) hq).2
    refine lv_aload_n hx hb d_R_readNext_13 rfl (lv_at hl 0 rfl) ?_
    refine f_get S cls_R hK hP 0 rfl 2 (by decide) fl_R_failed rfl rfl d_R_readNext_14 ?_
    refine lv_if_ne (tgt := 24) hx hb d_R_readNext_17 (by decide) (fun c_17 => ?_) (fun c_17 => ?_)
    · have e_17 := b2_n c_17
      exact hret _ _ _ _ _ d_R_readNext_24 (by first | (simp only [rnx, Bool.false_eq_true, e_4, e_17, ↓reduceIte]; done) | (simp only [rnx, Bool.false_eq_true, e_4, e_17, ↓reduceIte]; rfl) | rfl) hP hD hS
    · have e_17 := b2_z c_17
      rw [e_17] at hP hD
      refine lv_aload_n hx hb d_R_readNext_20 rfl (lv_at hl 0 rfl) ?_
      refine MV.callV (wr := []) S (c_R_readOrder l D ca  ro po tx P pl ((sg P pl 59 59 (q, false)).1) ki fi nu su bw (by omega) (hb1) (by omega)) k_R_43 hP hD hS hA hK [0, 1, 2] [] rfl rfl (by decide) (by decide) (by decide) 0 (ci := 3) (fs := [.ref po, .int (nI ((sg P pl 59 59 (q, false)).1)), .int (b2 false), .int ki, .int fi, .int nu, .int su, .int bw]) rfl rfl rfl rfl hl.1 ⟨Nat.le_of_ble_eq_true rfl, Nat.le_of_ble_eq_true rfl⟩ ⟨Nat.zero_le _, Nat.zero_le _⟩ (Nat.le_of_ble_eq_true rfl) d_R_readNext_21 (fun H locs hP hD hS => ?_)
      have hP : va_P D classes [(ro, .inr (3, [.ref po, .int (nI ((crs P pl ((sg P pl 59 59 (q, false)).1)).1)), .int (b2 (crs P pl ((sg P pl 59 59 (q, false)).1)).2), .int ((crf P pl ((sg P pl 59 59 (q, false)).1) (ki, fi, nu, su, bw)).1), .int ((crf P pl ((sg P pl 59 59 (q, false)).1) (ki, fi, nu, su, bw)).2.1), .int ((crf P pl ((sg P pl 59 59 (q, false)).1) (ki, fi, nu, su, bw)).2.2.1), .int ((crf P pl ((sg P pl 59 59 (q, false)).1) (ki, fi, nu, su, bw)).2.2.2.1), .int ((crf P pl ((sg P pl 59 59 (q, false)).1) (ki, fi, nu, su, bw)).2.2.2.2)])), (po, .inr (2, [.ref tx, .int (nI pl)])), (tx, .inl (ca 2, 80, .inl P))] H := hP
      have hD : va_D A [(ro, .inr (3, [.ref po, .int (nI ((crs P pl ((sg P pl 59 59 (q, false)).1)).1)), .int (b2 (crs P pl ((sg P pl 59 59 (q, false)).1)).2), .int ((crf P pl ((sg P pl 59 59 (q, false)).1) (ki, fi, nu, su, bw)).1), .int ((crf P pl ((sg P pl 59 59 (q, false)).1) (ki, fi, nu, su, bw)).2.1), .int ((crf P pl ((sg P pl 59 59 (q, false)).1) (ki, fi, nu, su, bw)).2.2.1), .int ((crf P pl ((sg P pl 59 59 (q, false)).1) (ki, fi, nu, su, bw)).2.2.2.1), .int ((crf P pl ((sg P pl 59 59 (q, false)).1) (ki, fi, nu, su, bw)).2.2.2.2)])), (po, .inr (2, [.ref tx, .int (nI pl)])), (tx, .inl (ca 2, 80, .inl P))] := hD
      exact hret _ _ _ _ _ d_R_readNext_24 (by first | (simp only [rnx, Bool.false_eq_true, e_4, e_17, ↓reduceIte]; done) | (simp only [rnx, Bool.false_eq_true, e_4, e_17, ↓reduceIte]; rfl) | rfl) hP hD hS
def cfE (P : Nat → Int32) (n : Nat) (F : cF) : Int32 := if (cfp P n F).1.2 = true then nI (cfp P n F).1.1 else -6
set_option maxHeartbeats 4000000 in
set_option maxRecDepth 100000 in
theorem c_R_faultPosition (l : Launch) (D : va_G) (ca : Nat → ClassId) (ro po tx : Nat) (P : Nat → Int32) (pl q : Nat) (wb : Bool) (ki fi nu su bw : Int32) (hpl : pl ≤ 80) (hCH : CH P pl) : MI l y_R_faultPosition b_R_faultPosition 2 (some .int) 6 124 D ca [.ref ro] [(ro, .inr (3, [.ref po, .int (nI q), .int (b2 wb), .int ki, .int fi, .int nu, .int su, .int bw])), (po, .inr (2, [.ref tx, .int (nI pl)])), (tx, .inl (ca 2, 80, .inl P))] (cfE P pl (ki, fi, nu, su, bw)) [(ro, .inr (3, [.ref po, .int (nI ((cfp P pl (ki, fi, nu, su, bw)).1.1)), .int (b2 (cfp P pl (ki, fi, nu, su, bw)).1.2), .int ((cfp P pl (ki, fi, nu, su, bw)).2.1), .int ((cfp P pl (ki, fi, nu, su, bw)).2.2.1), .int ((cfp P pl (ki, fi, nu, su, bw)).2.2.2.1), .int ((cfp P pl (ki, fi, nu, su, bw)).2.2.2.2.1), .int ((cfp P pl (ki, fi, nu, su, bw)).2.2.2.2.2)])), (po, .inr (2, [.ref tx, .int (nI pl)])), (tx, .inl (ca 2, 80, .inl P))] := by
  refine MI.mk (ty := .int) rfl rfl (Nat.le_of_ble_eq_true rfl) ?_
  intro p e s m args below meth c Q A S hA hP hD hK
  obtain ⟨hx, hb, hml, hown, hts⟩ := id S
  intro hret ls hl0 hS
  have hl : lv_has ls 2 [(0, .ref ro)] := hl0
  refine lv_aload_n hx hb d_R_faultPosition_0 rfl (lv_at hl 0 rfl) ?_
  refine MV.callV (wr := []) S (c_R_startAgain l D ca  ro po tx P pl q wb ki fi nu su bw ) k_R_29 hP hD hS hA hK [0, 1, 2] [] rfl rfl (by decide) (by decide) (by decide) 0 (ci := 3) (fs := [.ref po, .int (nI q), .int (b2 wb), .int ki, .int fi, .int nu, .int su, .int bw]) rfl rfl rfl rfl hl.1 ⟨Nat.le_of_ble_eq_true rfl, Nat.le_of_ble_eq_true rfl⟩ ⟨Nat.zero_le _, Nat.zero_le _⟩ (Nat.le_of_ble_eq_true rfl) d_R_faultPosition_1 (fun H locs hP hD hS => ?_)
  have hP : va_P D classes [(ro, .inr (3, [.ref po, .int (nI 0), .int (b2 false), .int ki, .int fi, .int nu, .int su, .int bw])), (po, .inr (2, [.ref tx, .int (nI pl)])), (tx, .inl (ca 2, 80, .inl P))] H := hP
  have hD : va_D A [(ro, .inr (3, [.ref po, .int (nI 0), .int (b2 false), .int ki, .int fi, .int nu, .int su, .int bw])), (po, .inr (2, [.ref tx, .int (nI pl)])), (tx, .inl (ca 2, 80, .inl P))] := hD
  refine lv_aload_n hx hb d_R_faultPosition_4 rfl (lv_at hl 0 rfl) ?_
  refine MV.callV (wr := []) S (c_R_readNext l D ca  ro po tx P pl 0 ki fi nu su bw (by omega) (Nat.zero_le _) (by omega)) k_R_32 hP hD hS hA hK [0, 1, 2] [] rfl rfl (by decide) (by decide) (by decide) 0 (ci := 3) (fs := [.ref po, .int (nI 0), .int (b2 false), .int ki, .int fi, .int nu, .int su, .int bw]) rfl rfl rfl rfl hl.1 ⟨Nat.le_of_ble_eq_true rfl, Nat.le_of_ble_eq_true rfl⟩ ⟨Nat.zero_le _, Nat.zero_le _⟩ (Nat.le_of_ble_eq_true rfl) d_R_faultPosition_5 (fun H locs hP hD hS => ?_)
  have hP : va_P D classes [(ro, .inr (3, [.ref po, .int (nI ((rnx P pl 0 (ki, fi, nu, su, bw)).1.1)), .int (b2 (rnx P pl 0 (ki, fi, nu, su, bw)).1.2), .int ((rnx P pl 0 (ki, fi, nu, su, bw)).2.1), .int ((rnx P pl 0 (ki, fi, nu, su, bw)).2.2.1), .int ((rnx P pl 0 (ki, fi, nu, su, bw)).2.2.2.1), .int ((rnx P pl 0 (ki, fi, nu, su, bw)).2.2.2.2.1), .int ((rnx P pl 0 (ki, fi, nu, su, bw)).2.2.2.2.2)])), (po, .inr (2, [.ref tx, .int (nI pl)])), (tx, .inl (ca 2, 80, .inl P))] H := hP
  have hD : va_D A [(ro, .inr (3, [.ref po, .int (nI ((rnx P pl 0 (ki, fi, nu, su, bw)).1.1)), .int (b2 (rnx P pl 0 (ki, fi, nu, su, bw)).1.2), .int ((rnx P pl 0 (ki, fi, nu, su, bw)).2.1), .int ((rnx P pl 0 (ki, fi, nu, su, bw)).2.2.1), .int ((rnx P pl 0 (ki, fi, nu, su, bw)).2.2.2.1), .int ((rnx P pl 0 (ki, fi, nu, su, bw)).2.2.2.2.1), .int ((rnx P pl 0 (ki, fi, nu, su, bw)).2.2.2.2.2)])), (po, .inr (2, [.ref tx, .int (nI pl)])), (tx, .inl (ca 2, 80, .inl P))] := hD
  refine lv_iconst (v := 1) hx hb d_R_faultPosition_8 (by decide) ?_
  refine lv_istore_n (lv' := [(1, .int 1), (0, .ref ro)]) hx hb d_R_faultPosition_9 rfl hl (by decide) rfl (fun ls hl => ?_)
  have hz0 := rnx_bd (P := P) (n := pl) (p := 0) (F := (ki, fi, nu, su, bw)) (Nat.zero_le _)
  suffices lp : ∀ (r i : Nat) (z : Nat × Bool) (F : cF), 1 ≤ r → (z.2 = false → pl - z.1 + 1 < r) → i ≤ 80 → z.1 ≤ pl → (z.2 = false → i ≤ z.1) → (cfp P pl (ki, fi, nu, su, bw)) = ck P pl (r - 1) z F → ∀ (H : Heap) (locs : List Loc), va_P D classes [(ro, .inr (3, [.ref po, .int (nI z.1), .int (b2 z.2), .int F.1, .int F.2.1, .int F.2.2.1, .int F.2.2.2.1, .int F.2.2.2.2])), (po, .inr (2, [.ref tx, .int (nI pl)])), (tx, .inl (ca 2, 80, .inl P))] H → va_D A [(ro, .inr (3, [.ref po, .int (nI z.1), .int (b2 z.2), .int F.1, .int F.2.1, .int F.2.2.1, .int F.2.2.2.1, .int F.2.2.2.2])), (po, .inr (2, [.ref tx, .int (nI pl)])), (tx, .inl (ca 2, 80, .inl P))] → va_S A s.heap H locs → ∀ ls : Array Slot, lv_has ls 2 [(1, .int (nI i)), (0, .ref ro)] → W p l e (rm 6 124 0 0) s m args below meth c H locs 0 0 Q (F0 m 10 ls []) from lp (pl + 1) 1 _ _ (by omega) (fun z => by have := hz0.2 z; have := hz0.1; omega) (by omega) hz0.1 (fun z => hz0.2 z) rfl _ _ hP hD hS _ (lv_sub hl [0, 1] rfl)
  intro r
  induction r with
  | zero => intro i z F h1r; omega
  | succ r ih =>
    intro i z F h1r hz hi hzb hzi hE H locs hP hD hS ls hl
    have hE : (cfp P pl (ki, fi, nu, su, bw)) = ck P pl r z F := hE
    have stop : (z.2 = true ∨ ¬ z.1 < pl) → (cfp P pl (ki, fi, nu, su, bw)) = (z, F) := by
      intro hs
      rw [hE]
      cases r with
      | zero => rfl
      | succ r =>
        unfold ck
        rcases hs with hs | hs
        · rw [if_pos hs]
        · split
          · rfl
          · first | rfl | rw [if_neg hs]
    refine lv_iload_n hx hb d_R_faultPosition_10 rfl (lv_at hl 0 rfl) ?_
    refine lv_bipush (v := 80) hx hb d_R_faultPosition_11 (by decide) ?_
    refine lv_icmp_ge (tgt := 33) hx hb d_R_faultPosition_13 (by decide) (fun c_13 => ?_) (fun c_13 => ?_)
    · have e_13 : 80 ≤ i := le_of_nI (by omega) (by omega) (show nI 80 ≤ nI i from c_13)
      have hR := stop (by
        rcases Bool.eq_false_or_eq_true z.2 with q | q
        · exact Or.inl q
        · exact Or.inr (by have := hzi q; omega))
      refine lv_aload_n hx hb d_R_faultPosition_33 rfl (lv_at hl 1 rfl) ?_
      refine f_get S cls_R hK hP 0 rfl 2 (by decide) fl_R_failed rfl rfl d_R_faultPosition_34 ?_
      refine lv_if_eq (tgt := 47) hx hb d_R_faultPosition_37 (by decide) (fun c_37 => ?_) (fun c_37 => ?_)
      · have e_37 := b2_z c_37
        refine lv_bipush (v := (-6)) hx hb d_R_faultPosition_47 (by decide) ?_
        exact hret _ _ _ _ _ _ d_R_faultPosition_49 rfl (by simp only [cfE, hR, e_37, Bool.false_eq_true, ↓reduceIte]) (by rw [hR]) hP hD hS
      · have e_37 := b2_n c_37
        refine lv_aload_n hx hb d_R_faultPosition_40 rfl (lv_at hl 1 rfl) ?_
        refine f_get S cls_R hK hP 0 rfl 1 (by decide) fl_R_position rfl rfl d_R_faultPosition_41 ?_
        refine lv_goto (tgt := 49) hx hb d_R_faultPosition_44 (by decide) ?_
        exact hret _ _ _ _ _ _ d_R_faultPosition_49 rfl (by simp only [cfE, hR, e_37, Bool.false_eq_true, ↓reduceIte]) (by rw [hR]) hP hD hS
    · have e_13 : i < 80 := nle_lt (by omega) (by omega) (show ¬ nI 80 ≤ nI i from c_13)
      refine lv_aload_n hx hb d_R_faultPosition_16 rfl (lv_at hl 1 rfl) ?_
      refine RO.callV S (c_R_hasMore l D ca  ro po tx P pl z.1 z.2 F.1 F.2.1 F.2.2.1 F.2.2.2.1 F.2.2.2.2 (by omega) (hzb)) k_R_35 hP hK [0, 1, 2] rfl 0 (ci := 3) (fs := [.ref po, .int (nI z.1), .int (b2 z.2), .int F.1, .int F.2.1, .int F.2.2.1, .int F.2.2.2.1, .int F.2.2.2.2]) rfl rfl rfl rfl hl.1 ⟨Nat.le_of_ble_eq_true rfl, Nat.le_of_ble_eq_true rfl⟩ ⟨Nat.zero_le _, Nat.zero_le _⟩ (Nat.le_of_ble_eq_true rfl) d_R_faultPosition_17 ?_
      refine lv_if_eq (tgt := 33) hx hb d_R_faultPosition_20 (by decide) (fun c_20 => ?_) (fun c_20 => ?_)
      · have e_20 := b2_z c_20
        have hR := stop (by
          rcases Bool.eq_false_or_eq_true z.2 with q | q
          · exact Or.inl q
          · rw [q] at e_20; simp at e_20; exact Or.inr (by omega))
        refine lv_aload_n hx hb d_R_faultPosition_33 rfl (lv_at hl 1 rfl) ?_
        refine f_get S cls_R hK hP 0 rfl 2 (by decide) fl_R_failed rfl rfl d_R_faultPosition_34 ?_
        refine lv_if_eq (tgt := 47) hx hb d_R_faultPosition_37 (by decide) (fun c_37 => ?_) (fun c_37 => ?_)
        · have e_37 := b2_z c_37
          refine lv_bipush (v := (-6)) hx hb d_R_faultPosition_47 (by decide) ?_
          exact hret _ _ _ _ _ _ d_R_faultPosition_49 rfl (by simp only [cfE, hR, e_37, Bool.false_eq_true, ↓reduceIte]) (by rw [hR]) hP hD hS
        · have e_37 := b2_n c_37
          refine lv_aload_n hx hb d_R_faultPosition_40 rfl (lv_at hl 1 rfl) ?_
          refine f_get S cls_R hK hP 0 rfl 1 (by decide) fl_R_position rfl rfl d_R_faultPosition_41 ?_
          refine lv_goto (tgt := 49) hx hb d_R_faultPosition_44 (by decide) ?_
          exact hret _ _ _ _ _ _ d_R_faultPosition_49 rfl (by simp only [cfE, hR, e_37, Bool.false_eq_true, ↓reduceIte]) (by rw [hR]) hP hD hS
      · have e_20 := b2_n c_20
        have hzf : z.2 = false := by
          rcases Bool.eq_false_or_eq_true z.2 with q | q
          · rw [q] at e_20; simp at e_20
          · exact q
        have hlt : z.1 < pl := by rw [hzf] at e_20; simpa using e_20
        rw [hzf] at hP hD
        refine lv_aload_n hx hb d_R_faultPosition_23 rfl (lv_at hl 1 rfl) ?_
        refine MV.callV (wr := []) S (c_R_readNext l D ca  ro po tx P pl z.1 F.1 F.2.1 F.2.2.1 F.2.2.2.1 F.2.2.2.2 (by omega) (hzb) (by omega)) k_R_32 hP hD hS hA hK [0, 1, 2] [] rfl rfl (by decide) (by decide) (by decide) 0 (ci := 3) (fs := [.ref po, .int (nI z.1), .int (b2 false), .int F.1, .int F.2.1, .int F.2.2.1, .int F.2.2.2.1, .int F.2.2.2.2]) rfl rfl rfl rfl hl.1 ⟨Nat.le_of_ble_eq_true rfl, Nat.le_of_ble_eq_true rfl⟩ ⟨Nat.zero_le _, Nat.zero_le _⟩ (Nat.le_of_ble_eq_true rfl) d_R_faultPosition_24 (fun H locs hP hD hS => ?_)
        have hP : va_P D classes [(ro, .inr (3, [.ref po, .int (nI ((rnx P pl z.1 (F.1, F.2.1, F.2.2.1, F.2.2.2.1, F.2.2.2.2)).1.1)), .int (b2 (rnx P pl z.1 (F.1, F.2.1, F.2.2.1, F.2.2.2.1, F.2.2.2.2)).1.2), .int ((rnx P pl z.1 (F.1, F.2.1, F.2.2.1, F.2.2.2.1, F.2.2.2.2)).2.1), .int ((rnx P pl z.1 (F.1, F.2.1, F.2.2.1, F.2.2.2.1, F.2.2.2.2)).2.2.1), .int ((rnx P pl z.1 (F.1, F.2.1, F.2.2.1, F.2.2.2.1, F.2.2.2.2)).2.2.2.1), .int ((rnx P pl z.1 (F.1, F.2.1, F.2.2.1, F.2.2.2.1, F.2.2.2.2)).2.2.2.2.1), .int ((rnx P pl z.1 (F.1, F.2.1, F.2.2.1, F.2.2.2.1, F.2.2.2.2)).2.2.2.2.2)])), (po, .inr (2, [.ref tx, .int (nI pl)])), (tx, .inl (ca 2, 80, .inl P))] H := hP
        have hD : va_D A [(ro, .inr (3, [.ref po, .int (nI ((rnx P pl z.1 (F.1, F.2.1, F.2.2.1, F.2.2.2.1, F.2.2.2.2)).1.1)), .int (b2 (rnx P pl z.1 (F.1, F.2.1, F.2.2.1, F.2.2.2.1, F.2.2.2.2)).1.2), .int ((rnx P pl z.1 (F.1, F.2.1, F.2.2.1, F.2.2.2.1, F.2.2.2.2)).2.1), .int ((rnx P pl z.1 (F.1, F.2.1, F.2.2.1, F.2.2.2.1, F.2.2.2.2)).2.2.1), .int ((rnx P pl z.1 (F.1, F.2.1, F.2.2.1, F.2.2.2.1, F.2.2.2.2)).2.2.2.1), .int ((rnx P pl z.1 (F.1, F.2.1, F.2.2.1, F.2.2.2.1, F.2.2.2.2)).2.2.2.2.1), .int ((rnx P pl z.1 (F.1, F.2.1, F.2.2.1, F.2.2.2.1, F.2.2.2.2)).2.2.2.2.2)])), (po, .inr (2, [.ref tx, .int (nI pl)])), (tx, .inl (ca 2, 80, .inl P))] := hD
        refine lv_iinc (v := nI (i + 1)) (lv' := [(1, .int (nI (i + 1))), (0, .ref ro)]) hx hb d_R_faultPosition_27 hl (k := 0) rfl (nI_1 i) (by decide) rfl (fun ls hl => ?_)
        have hn := rnx_bd (P := P) (n := pl) (p := z.1) (F := F) hzb
        have hzi2 := hzi hzf
        refine lv_goto (tgt := 10) hx hb d_R_faultPosition_30 (by decide) ?_
        have hz2 := hz hzf
        cases r with
        | zero => omega
        | succ r =>
          refine ih (i + 1) (rnx P pl z.1 F).1 (rnx P pl z.1 F).2 (by omega) (fun q => by have := hn.2 q; have := hn.1; omega) (by omega) hn.1 (fun q => by have := hn.2 q; omega) ?_ _ _ hP hD hS _ (lv_sub hl [0, 1] rfl)
          · rw [hE]
            show ck P pl (r + 1) z F = ck P pl r _ _
            conv => lhs; unfold ck
            rw [if_neg (by rw [hzf]; decide), if_pos hlt]
set_option maxHeartbeats 4000000 in
set_option maxRecDepth 100000 in
theorem c_R_carryOutOn (l : Launch) (D : va_G) (ca : Nat → ClassId) (ro po : Nat) (t : Nat → Nat) (g : Nat → Int32) (q : Nat) (wb : Bool) (ki fi nu su bw : Int32) (hB : BN g) : MI l y_R_carryOutOn b_R_carryOutOn 2 (some .int) 5 116 D ca [.ref ro, .ref (t 0)] ([(ro, .inr (3, [.ref po, .int (nI q), .int (b2 wb), .int ki, .int fi, .int nu, .int su, .int bw]))] ++ tw ca t g) ((cdo g (ki, fi, nu, su, bw)).1) ([(ro, .inr (3, [.ref po, .int (nI q), .int (b2 wb), .int ki, .int fi, .int nu, .int su, .int bw]))] ++ tw ca t ((cdo g (ki, fi, nu, su, bw)).2)) := by
  refine MI.mk (ty := .int) rfl rfl (Nat.le_of_ble_eq_true rfl) ?_
  intro p e s m args below meth c Q A S hA hP hD hK
  obtain ⟨hx, hb, hml, hown, hts⟩ := id S
  intro hret ls hl0 hS
  have hl : lv_has ls 2 [(0, .ref ro), (1, .ref (t 0))] := hl0
  rcases chr_cases ki with hc | hc | hc | hc | hc | ⟨h119, h114, h99, h109, h120⟩
  · subst hc
    refine lv_aload_n hx hb d_R_carryOutOn_0 rfl (lv_at hl 0 rfl) ?_
    refine f_get S cls_R hK hP 0 rfl 3 (by decide) fl_R_kind rfl rfl d_R_carryOutOn_1 ?_
    refine lv_lookup (tgt := 56) (off := 52) hx hb d_R_carryOutOn_4 (by decide) (by decide) (by decide) ?_
    refine lv_aload_n hx hb d_R_carryOutOn_56 rfl (lv_at hl 1 rfl) ?_
    refine lv_aload_n hx hb d_R_carryOutOn_57 rfl (lv_at hl 0 rfl) ?_
    refine f_get S cls_R hK hP 0 rfl 4 (by decide) fl_R_file rfl rfl d_R_carryOutOn_58 ?_
    refine lv_aload_n hx hb d_R_carryOutOn_61 rfl (lv_at hl 0 rfl) ?_
    refine f_get S cls_R hK hP 0 rfl 5 (by decide) fl_R_number rfl rfl d_R_carryOutOn_62 ?_
    refine lv_aload_n hx hb d_R_carryOutOn_65 rfl (lv_at hl 0 rfl) ?_
    refine f_get S cls_R hK hP 0 rfl 6 (by decide) fl_R_sum rfl rfl d_R_carryOutOn_66 ?_
    refine MI.callV (wr := [(ro, .inr (3, [.ref po, .int (nI q), .int (b2 wb), .int 119, .int fi, .int nu, .int su, .int bw]))]) S (c_T_addBlock l D ca t g fi nu su hB) k_R_59 hP hD hS hA hK [1, 2, 3, 4, 5, 6] [0] rfl rfl (by decide) (by decide) (by decide) 1 (ci := 1) (fs := tf t g) rfl rfl rfl rfl hl.1 ⟨Nat.le_of_ble_eq_true rfl, Nat.le_of_ble_eq_true rfl⟩ ⟨Nat.zero_le _, Nat.zero_le _⟩ (Nat.le_of_ble_eq_true rfl) d_R_carryOutOn_69 (fun H locs hP hD hS => ?_)
    have hP : va_P D classes ([(ro, .inr (3, [.ref po, .int (nI q), .int (b2 wb), .int 119, .int fi, .int nu, .int su, .int bw]))] ++ tw ca t ((s_add g fi nu su).2)) H := hP
    have hD : va_D A ([(ro, .inr (3, [.ref po, .int (nI q), .int (b2 wb), .int 119, .int fi, .int nu, .int su, .int bw]))] ++ tw ca t ((s_add g fi nu su).2)) := hD
    exact hret _ _ _ _ _ _ d_R_carryOutOn_72 rfl (by first | (simp only [cdo, ↓reduceIte]; done) | (simp only [cdo, ↓reduceIte]; rfl) | rfl) (by first | (simp only [cdo, ↓reduceIte]; done) | (simp only [cdo, ↓reduceIte]; rfl) | rfl) hP hD hS
  · subst hc
    refine lv_aload_n hx hb d_R_carryOutOn_0 rfl (lv_at hl 0 rfl) ?_
    refine f_get S cls_R hK hP 0 rfl 3 (by decide) fl_R_kind rfl rfl d_R_carryOutOn_1 ?_
    refine lv_lookup (tgt := 73) (off := 69) hx hb d_R_carryOutOn_4 (by decide) (by decide) (by decide) ?_
    refine lv_aload_n hx hb d_R_carryOutOn_73 rfl (lv_at hl 1 rfl) ?_
    refine lv_aload_n hx hb d_R_carryOutOn_74 rfl (lv_at hl 0 rfl) ?_
    refine f_get S cls_R hK hP 0 rfl 4 (by decide) fl_R_file rfl rfl d_R_carryOutOn_75 ?_
    refine lv_aload_n hx hb d_R_carryOutOn_78 rfl (lv_at hl 0 rfl) ?_
    refine f_get S cls_R hK hP 0 rfl 5 (by decide) fl_R_number rfl rfl d_R_carryOutOn_79 ?_
    refine lv_aload_n hx hb d_R_carryOutOn_82 rfl (lv_at hl 0 rfl) ?_
    refine f_get S cls_R hK hP 0 rfl 7 (by decide) fl_R_backwards rfl rfl d_R_carryOutOn_83 ?_
    refine MI.callV (wr := [(ro, .inr (3, [.ref po, .int (nI q), .int (b2 wb), .int 114, .int fi, .int nu, .int su, .int bw]))]) S (c_T_passBlock l D ca t g fi nu bw hB) k_R_68 hP hD hS hA hK [1, 2, 3, 4, 5, 6] [0] rfl rfl (by decide) (by decide) (by decide) 1 (ci := 1) (fs := tf t g) rfl rfl rfl rfl hl.1 ⟨Nat.le_of_ble_eq_true rfl, Nat.le_of_ble_eq_true rfl⟩ ⟨Nat.zero_le _, Nat.zero_le _⟩ (Nat.le_of_ble_eq_true rfl) d_R_carryOutOn_86 (fun H locs hP hD hS => ?_)
    have hP : va_P D classes ([(ro, .inr (3, [.ref po, .int (nI q), .int (b2 wb), .int 114, .int fi, .int nu, .int su, .int bw]))] ++ tw ca t ((s_rd g fi nu bw).2)) H := hP
    have hD : va_D A ([(ro, .inr (3, [.ref po, .int (nI q), .int (b2 wb), .int 114, .int fi, .int nu, .int su, .int bw]))] ++ tw ca t ((s_rd g fi nu bw).2)) := hD
    exact hret _ _ _ _ _ _ d_R_carryOutOn_89 rfl (by first | (simp only [cdo, ↓reduceIte]; done) | (simp only [cdo, ↓reduceIte]; rfl) | rfl) (by first | (simp only [cdo, ↓reduceIte]; done) | (simp only [cdo, ↓reduceIte]; rfl) | rfl) hP hD hS
  · subst hc
    refine lv_aload_n hx hb d_R_carryOutOn_0 rfl (lv_at hl 0 rfl) ?_
    refine f_get S cls_R hK hP 0 rfl 3 (by decide) fl_R_kind rfl rfl d_R_carryOutOn_1 ?_
    refine lv_lookup (tgt := 90) (off := 86) hx hb d_R_carryOutOn_4 (by decide) (by decide) (by decide) ?_
    refine lv_aload_n hx hb d_R_carryOutOn_90 rfl (lv_at hl 1 rfl) ?_
    refine lv_aload_n hx hb d_R_carryOutOn_91 rfl (lv_at hl 0 rfl) ?_
    refine f_get S cls_R hK hP 0 rfl 4 (by decide) fl_R_file rfl rfl d_R_carryOutOn_92 ?_
    refine lv_aload_n hx hb d_R_carryOutOn_95 rfl (lv_at hl 0 rfl) ?_
    refine f_get S cls_R hK hP 0 rfl 5 (by decide) fl_R_number rfl rfl d_R_carryOutOn_96 ?_
    refine MI.callV (wr := [(ro, .inr (3, [.ref po, .int (nI q), .int (b2 wb), .int 99, .int fi, .int nu, .int su, .int bw]))]) S (c_T_keepBlocks l D ca t g fi nu hB) k_R_71 hP hD hS hA hK [1, 2, 3, 4, 5, 6] [0] rfl rfl (by decide) (by decide) (by decide) 1 (ci := 1) (fs := tf t g) rfl rfl rfl rfl hl.1 ⟨Nat.le_of_ble_eq_true rfl, Nat.le_of_ble_eq_true rfl⟩ ⟨Nat.zero_le _, Nat.zero_le _⟩ (Nat.le_of_ble_eq_true rfl) d_R_carryOutOn_99 (fun H locs hP hD hS => ?_)
    have hP : va_P D classes ([(ro, .inr (3, [.ref po, .int (nI q), .int (b2 wb), .int 99, .int fi, .int nu, .int su, .int bw]))] ++ tw ca t ((s_cut g fi nu).2)) H := hP
    have hD : va_D A ([(ro, .inr (3, [.ref po, .int (nI q), .int (b2 wb), .int 99, .int fi, .int nu, .int su, .int bw]))] ++ tw ca t ((s_cut g fi nu).2)) := hD
    exact hret _ _ _ _ _ _ d_R_carryOutOn_102 rfl (by first | (simp only [cdo, ↓reduceIte]; done) | (simp only [cdo, ↓reduceIte]; rfl) | rfl) (by first | (simp only [cdo, ↓reduceIte]; done) | (simp only [cdo, ↓reduceIte]; rfl) | rfl) hP hD hS
  · subst hc
    refine lv_aload_n hx hb d_R_carryOutOn_0 rfl (lv_at hl 0 rfl) ?_
    refine f_get S cls_R hK hP 0 rfl 3 (by decide) fl_R_kind rfl rfl d_R_carryOutOn_1 ?_
    refine lv_lookup (tgt := 103) (off := 99) hx hb d_R_carryOutOn_4 (by decide) (by decide) (by decide) ?_
    refine lv_aload_n hx hb d_R_carryOutOn_103 rfl (lv_at hl 1 rfl) ?_
    refine lv_aload_n hx hb d_R_carryOutOn_104 rfl (lv_at hl 0 rfl) ?_
    refine f_get S cls_R hK hP 0 rfl 5 (by decide) fl_R_number rfl rfl d_R_carryOutOn_105 ?_
    refine MI.callV (wr := [(ro, .inr (3, [.ref po, .int (nI q), .int (b2 wb), .int 109, .int fi, .int nu, .int su, .int bw]))]) S (c_T_moveHead l D ca t g nu ) k_R_75 hP hD hS hA hK [1, 2, 3, 4, 5, 6] [0] rfl rfl (by decide) (by decide) (by decide) 1 (ci := 1) (fs := tf t g) rfl rfl rfl rfl hl.1 ⟨Nat.le_of_ble_eq_true rfl, Nat.le_of_ble_eq_true rfl⟩ ⟨Nat.zero_le _, Nat.zero_le _⟩ (Nat.le_of_ble_eq_true rfl) d_R_carryOutOn_108 (fun H locs hP hD hS => ?_)
    have hP : va_P D classes ([(ro, .inr (3, [.ref po, .int (nI q), .int (b2 wb), .int 109, .int fi, .int nu, .int su, .int bw]))] ++ tw ca t ((s_mov g nu).2)) H := hP
    have hD : va_D A ([(ro, .inr (3, [.ref po, .int (nI q), .int (b2 wb), .int 109, .int fi, .int nu, .int su, .int bw]))] ++ tw ca t ((s_mov g nu).2)) := hD
    exact hret _ _ _ _ _ _ d_R_carryOutOn_111 rfl (by first | (simp only [cdo, ↓reduceIte]; done) | (simp only [cdo, ↓reduceIte]; rfl) | rfl) (by first | (simp only [cdo, ↓reduceIte]; done) | (simp only [cdo, ↓reduceIte]; rfl) | rfl) hP hD hS
  · subst hc
    refine lv_aload_n hx hb d_R_carryOutOn_0 rfl (lv_at hl 0 rfl) ?_
    refine f_get S cls_R hK hP 0 rfl 3 (by decide) fl_R_kind rfl rfl d_R_carryOutOn_1 ?_
    refine lv_lookup (tgt := 112) (off := 108) hx hb d_R_carryOutOn_4 (by decide) (by decide) (by decide) ?_
    refine lv_aload_n hx hb d_R_carryOutOn_112 rfl (lv_at hl 1 rfl) ?_
    refine MI.callV (wr := [(ro, .inr (3, [.ref po, .int (nI q), .int (b2 wb), .int 120, .int fi, .int nu, .int su, .int bw]))]) S (c_T_goToNearerEnd l D ca t g  ) k_R_79 hP hD hS hA hK [1, 2, 3, 4, 5, 6] [0] rfl rfl (by decide) (by decide) (by decide) 1 (ci := 1) (fs := tf t g) rfl rfl rfl rfl hl.1 ⟨Nat.le_of_ble_eq_true rfl, Nat.le_of_ble_eq_true rfl⟩ ⟨Nat.zero_le _, Nat.zero_le _⟩ (Nat.le_of_ble_eq_true rfl) d_R_carryOutOn_113 (fun H locs hP hD hS => ?_)
    have hP : va_P D classes ([(ro, .inr (3, [.ref po, .int (nI q), .int (b2 wb), .int 120, .int fi, .int nu, .int su, .int bw]))] ++ tw ca t ((s_rew g).2)) H := hP
    have hD : va_D A ([(ro, .inr (3, [.ref po, .int (nI q), .int (b2 wb), .int 120, .int fi, .int nu, .int su, .int bw]))] ++ tw ca t ((s_rew g).2)) := hD
    exact hret _ _ _ _ _ _ d_R_carryOutOn_116 rfl (by first | (simp only [cdo, ↓reduceIte]; done) | (simp only [cdo, ↓reduceIte]; rfl) | rfl) (by first | (simp only [cdo, ↓reduceIte]; done) | (simp only [cdo, ↓reduceIte]; rfl) | rfl) hP hD hS
  · refine lv_aload_n hx hb d_R_carryOutOn_0 rfl (lv_at hl 0 rfl) ?_
    refine f_get S cls_R hK hP 0 rfl 3 (by decide) fl_R_kind rfl rfl d_R_carryOutOn_1 ?_
    refine lv_lookup (tgt := 117) (off := 113) hx hb d_R_carryOutOn_4 (by decide) (show Op.lookupswitch.offset [(99, 86), (109, 99), (114, 69), (119, 52), (120, 108)] 113 _ = _ from by rw [lv_osw (k := 99) h99 (by decide), lv_osw (k := 109) h109 (by decide), lv_osw (k := 114) h114 (by decide), lv_osw (k := 119) h119 (by decide), lv_osw (k := 120) h120 (by decide)]; rfl) (by decide) ?_
    refine lv_bipush (v := (-3)) hx hb d_R_carryOutOn_117 (by decide) ?_
    exact hret _ _ _ _ _ _ d_R_carryOutOn_119 rfl (by first | (simp only [cdo, h119, h114, h99, h109, h120, ↓reduceIte]; done) | (simp only [cdo, h119, h114, h99, h109, h120, ↓reduceIte]; rfl) | rfl) (by first | (simp only [cdo, h119, h114, h99, h109, h120, ↓reduceIte]; done) | (simp only [cdo, h119, h114, h99, h109, h120, ↓reduceIte]; rfl) | rfl) hP hD hS
