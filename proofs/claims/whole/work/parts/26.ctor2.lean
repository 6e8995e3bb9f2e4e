theorem va_P.cong {D : va_G} {cl : List vw_C} {ws : va_W} {H : Heap} (h : va_P D cl ws H) (k : Nat) {a : Nat} {c : ClassId} {x x' : vp_A} (hk : ws[k]? = some (a, .inl (c, x))) (he : vp_cell c x = vp_cell c x') : va_P D cl (ws.set k (a, .inl (c, x'))) H := fun j q hq => by
  by_cases hj : j = k
  · subst hj
    rw [List.getElem?_set_self (List.getElem?_eq_some_iff.mp hk).1] at hq
    cases hq
    have h1 : H[a]? = some (vp_cell c x) := h j _ hk
    show H[a]? = some (vp_cell c x')
    rw [← he]
    exact h1
  · rw [List.getElem?_set_ne (fun z => hj z.symm)] at hq
    exact h j q hq
theorem arrV_cong {c : ClassId} {N : Nat} {f f' : Nat → Value} (h : ∀ j, j < N → f j = f' j) : arrV c N f = arrV c N f' := by
  unfold arrV
  rw [show (fun j : Fin N => f j.val) = (fun j : Fin N => f' j.val) from funext fun j => h j.val j.isLt]
theorem cell_cong {c : ClassId} {n : Nat} {f f' : Nat → Option Nat} (h : ∀ j, j < n → f j = f' j) : vp_cell c (n, .inr (.inr (.inr (.inr f)))) = vp_cell c (n, .inr (.inr (.inr (.inr f')))) := by
  rw [vp_cell_q, vp_cell_q]
  exact arrV_cong (fun j hj => by rw [h j hj])
theorem g_new : upd (upd (upd (fun _ => (0 : Int32)) 0 600) 1 10) 2 2 = gI := funext fun j => by
  unfold gI
  by_cases h2 : j = 2
  · subst h2; rw [pk_us]; rfl
  · rw [pk_un h2]
    by_cases h1 : j = 1
    · subst h1; rw [pk_us]; rfl
    · rw [pk_un h1]
      by_cases h0 : j = 0
      · subst h0; rw [pk_us]; rfl
      · rw [pk_un h0, if_neg h0, if_neg h1, if_neg h2]
set_option maxHeartbeats 4000000 in
set_option maxRecDepth 100000 in
theorem c_M_init (l : Launch) (D : va_G) (ca : Nat → ClassId) (o : Nat) : IN (S := Nat → Nat) l y_M_init b_M_init 1 1 20 5 1612 D ca [.ref o] [(o, .inr (4, [.null, .null, .int 0, .null, .null, .null, .int 0, .int 0, .int 0, .int 0, .int 0, .int 0, .int 0]))] (fun u => [(o, .inr (4, [.ref (u 1), .ref (u 2), .int 0, .ref (u 3), .ref (u 4), .ref (u 5), .int 0, .int 0, .int 0, .int 0, .int 0, .int 0, .int 0])), (u 1, .inl (ca 0, 170, .inl gI)), (u 2, .inl (ca 0, 1020, .inl (fun _ => 0))), (u 3, .inl (ca 0, 340, .inl (fun _ => 0))), (u 4, .inl (ca 1, 2, .inl (fun _ => 0))), (u 5, .inl (ca 0, 80, .inl (fun _ => 0)))]) := by
  refine IN.mk rfl rfl (Nat.le_of_ble_eq_true rfl) ?_
  intro p e s m args below meth c Q A S hin hAO hA hP hD hK
  obtain ⟨hx, hb, hml, hown, hts⟩ := id S
  intro hret ls hl0 hS
  have hl : lv_has ls 1 [(0, .ref o)] := hl0
  refine lv_aload_n hx hb d_M_init_0 rfl (lv_at hl 0 rfl) ?_
  refine W.objInit hx hb hown (hts _ kx_M_1) (hts _ xi_Object_init) (hts _ xc_Object_init) rfl (by rw [hml]; exact hl.1) rfl d_M_init_1 (Nat.le_of_ble_eq_true rfl) (Nat.le_of_ble_eq_true rfl) ?_
  refine W.eq (g2 := F0 m 4 ls []) rfl ?_
  refine lv_aload_n hx hb d_M_init_4 rfl (lv_at hl 0 rfl) ?_
  refine lv_sipush (v := 170) hx hb d_M_init_5 (by decide) ?_
  refine A_newa S ac_int rfl hK hP hD hS hA 0 rfl (N' := 170) (a0 := (170, .inl (fun _ => 0))) (fun _ => rfl) (by decide) rfl (by decide) (Nat.le_of_ble_eq_true rfl) (Nat.le_of_ble_eq_true rfl) d_M_init_8 (fun q1 H hP hD hS => ?_)
  have hP : va_P D classes [(o, .inr (4, [.null, .null, .int 0, .null, .null, .null, .int 0, .int 0, .int 0, .int 0, .int 0, .int 0, .int 0])), (q1, .inl (ca 0, 170, .inl (fun _ => 0)))] H := hP
  have hD : va_D A [(o, .inr (4, [.null, .null, .int 0, .null, .null, .null, .int 0, .int 0, .int 0, .int 0, .int 0, .int 0, .int 0])), (q1, .inl (ca 0, 170, .inl (fun _ => 0)))] := hD
  refine f_putF S cls_M hK hP hD hS 0 rfl 0 (by decide) fl_M_s rfl rfl hin rfl (rfl) (rfl) (Nat.le_of_ble_eq_true rfl) d_M_init_10 (fun H locs hP hD hS => ?_)
  have hP : va_P D classes [(o, .inr (4, [.ref q1, .null, .int 0, .null, .null, .null, .int 0, .int 0, .int 0, .int 0, .int 0, .int 0, .int 0])), (q1, .inl (ca 0, 170, .inl (fun _ => 0)))] H := hP
  have hD : va_D A [(o, .inr (4, [.ref q1, .null, .int 0, .null, .null, .null, .int 0, .int 0, .int 0, .int 0, .int 0, .int 0, .int 0])), (q1, .inl (ca 0, 170, .inl (fun _ => 0)))] := hD
  refine lv_aload_n hx hb d_M_init_13 rfl (lv_at hl 0 rfl) ?_
  refine lv_sipush (v := 1020) hx hb d_M_init_14 (by decide) ?_
  refine A_newa S ac_int rfl hK hP hD hS hA 0 rfl (N' := 1020) (a0 := (1020, .inl (fun _ => 0))) (fun _ => rfl) (by decide) rfl (by decide) (Nat.le_of_ble_eq_true rfl) (Nat.le_of_ble_eq_true rfl) d_M_init_17 (fun q2 H hP hD hS => ?_)
  have hP : va_P D classes [(o, .inr (4, [.ref q1, .null, .int 0, .null, .null, .null, .int 0, .int 0, .int 0, .int 0, .int 0, .int 0, .int 0])), (q1, .inl (ca 0, 170, .inl (fun _ => 0))), (q2, .inl (ca 0, 1020, .inl (fun _ => 0)))] H := hP
  have hD : va_D A [(o, .inr (4, [.ref q1, .null, .int 0, .null, .null, .null, .int 0, .int 0, .int 0, .int 0, .int 0, .int 0, .int 0])), (q1, .inl (ca 0, 170, .inl (fun _ => 0))), (q2, .inl (ca 0, 1020, .inl (fun _ => 0)))] := hD
  refine f_putF S cls_M hK hP hD hS 0 rfl 1 (by decide) fl_M_before rfl rfl hin rfl (rfl) (rfl) (Nat.le_of_ble_eq_true rfl) d_M_init_19 (fun H locs hP hD hS => ?_)
  have hP : va_P D classes [(o, .inr (4, [.ref q1, .ref q2, .int 0, .null, .null, .null, .int 0, .int 0, .int 0, .int 0, .int 0, .int 0, .int 0])), (q1, .inl (ca 0, 170, .inl (fun _ => 0))), (q2, .inl (ca 0, 1020, .inl (fun _ => 0)))] H := hP
  have hD : va_D A [(o, .inr (4, [.ref q1, .ref q2, .int 0, .null, .null, .null, .int 0, .int 0, .int 0, .int 0, .int 0, .int 0, .int 0])), (q1, .inl (ca 0, 170, .inl (fun _ => 0))), (q2, .inl (ca 0, 1020, .inl (fun _ => 0)))] := hD
  refine lv_aload_n hx hb d_M_init_22 rfl (lv_at hl 0 rfl) ?_
  refine lv_sipush (v := 340) hx hb d_M_init_23 (by decide) ?_
  refine A_newa S ac_int rfl hK hP hD hS hA 0 rfl (N' := 340) (a0 := (340, .inl (fun _ => 0))) (fun _ => rfl) (by decide) rfl (by decide) (Nat.le_of_ble_eq_true rfl) (Nat.le_of_ble_eq_true rfl) d_M_init_26 (fun q3 H hP hD hS => ?_)
  have hP : va_P D classes [(o, .inr (4, [.ref q1, .ref q2, .int 0, .null, .null, .null, .int 0, .int 0, .int 0, .int 0, .int 0, .int 0, .int 0])), (q1, .inl (ca 0, 170, .inl (fun _ => 0))), (q2, .inl (ca 0, 1020, .inl (fun _ => 0))), (q3, .inl (ca 0, 340, .inl (fun _ => 0)))] H := hP
  have hD : va_D A [(o, .inr (4, [.ref q1, .ref q2, .int 0, .null, .null, .null, .int 0, .int 0, .int 0, .int 0, .int 0, .int 0, .int 0])), (q1, .inl (ca 0, 170, .inl (fun _ => 0))), (q2, .inl (ca 0, 1020, .inl (fun _ => 0))), (q3, .inl (ca 0, 340, .inl (fun _ => 0)))] := hD
  refine f_putF S cls_M hK hP hD hS 0 rfl 3 (by decide) fl_M_slots rfl rfl hin rfl (rfl) (rfl) (Nat.le_of_ble_eq_true rfl) d_M_init_28 (fun H locs hP hD hS => ?_)
  have hP : va_P D classes [(o, .inr (4, [.ref q1, .ref q2, .int 0, .ref q3, .null, .null, .int 0, .int 0, .int 0, .int 0, .int 0, .int 0, .int 0])), (q1, .inl (ca 0, 170, .inl (fun _ => 0))), (q2, .inl (ca 0, 1020, .inl (fun _ => 0))), (q3, .inl (ca 0, 340, .inl (fun _ => 0)))] H := hP
  have hD : va_D A [(o, .inr (4, [.ref q1, .ref q2, .int 0, .ref q3, .null, .null, .int 0, .int 0, .int 0, .int 0, .int 0, .int 0, .int 0])), (q1, .inl (ca 0, 170, .inl (fun _ => 0))), (q2, .inl (ca 0, 1020, .inl (fun _ => 0))), (q3, .inl (ca 0, 340, .inl (fun _ => 0)))] := hD
  refine lv_aload_n hx hb d_M_init_31 rfl (lv_at hl 0 rfl) ?_
  refine lv_iconst (v := 2) hx hb d_M_init_32 (by decide) ?_
  refine A_newa S ac_boolean rfl hK hP hD hS hA 1 rfl (N' := 2) (a0 := (2, .inl (fun _ => 0))) (fun _ => rfl) (by decide) rfl (by decide) (Nat.le_of_ble_eq_true rfl) (Nat.le_of_ble_eq_true rfl) d_M_init_33 (fun q4 H hP hD hS => ?_)
  have hP : va_P D classes [(o, .inr (4, [.ref q1, .ref q2, .int 0, .ref q3, .null, .null, .int 0, .int 0, .int 0, .int 0, .int 0, .int 0, .int 0])), (q1, .inl (ca 0, 170, .inl (fun _ => 0))), (q2, .inl (ca 0, 1020, .inl (fun _ => 0))), (q3, .inl (ca 0, 340, .inl (fun _ => 0))), (q4, .inl (ca 1, 2, .inl (fun _ => 0)))] H := hP
  have hD : va_D A [(o, .inr (4, [.ref q1, .ref q2, .int 0, .ref q3, .null, .null, .int 0, .int 0, .int 0, .int 0, .int 0, .int 0, .int 0])), (q1, .inl (ca 0, 170, .inl (fun _ => 0))), (q2, .inl (ca 0, 1020, .inl (fun _ => 0))), (q3, .inl (ca 0, 340, .inl (fun _ => 0))), (q4, .inl (ca 1, 2, .inl (fun _ => 0)))] := hD
  refine f_putF S cls_M hK hP hD hS 0 rfl 4 (by decide) fl_M_isSaved rfl rfl hin rfl (rfl) (rfl) (Nat.le_of_ble_eq_true rfl) d_M_init_35 (fun H locs hP hD hS => ?_)
  have hP : va_P D classes [(o, .inr (4, [.ref q1, .ref q2, .int 0, .ref q3, .ref q4, .null, .int 0, .int 0, .int 0, .int 0, .int 0, .int 0, .int 0])), (q1, .inl (ca 0, 170, .inl (fun _ => 0))), (q2, .inl (ca 0, 1020, .inl (fun _ => 0))), (q3, .inl (ca 0, 340, .inl (fun _ => 0))), (q4, .inl (ca 1, 2, .inl (fun _ => 0)))] H := hP
  have hD : va_D A [(o, .inr (4, [.ref q1, .ref q2, .int 0, .ref q3, .ref q4, .null, .int 0, .int 0, .int 0, .int 0, .int 0, .int 0, .int 0])), (q1, .inl (ca 0, 170, .inl (fun _ => 0))), (q2, .inl (ca 0, 1020, .inl (fun _ => 0))), (q3, .inl (ca 0, 340, .inl (fun _ => 0))), (q4, .inl (ca 1, 2, .inl (fun _ => 0)))] := hD
  refine lv_aload_n hx hb d_M_init_38 rfl (lv_at hl 0 rfl) ?_
  refine lv_bipush (v := 80) hx hb d_M_init_39 (by decide) ?_
  refine A_newa S ac_int rfl hK hP hD hS hA 0 rfl (N' := 80) (a0 := (80, .inl (fun _ => 0))) (fun _ => rfl) (by decide) rfl (by decide) (Nat.le_of_ble_eq_true rfl) (Nat.le_of_ble_eq_true rfl) d_M_init_41 (fun q5 H hP hD hS => ?_)
  have hP : va_P D classes [(o, .inr (4, [.ref q1, .ref q2, .int 0, .ref q3, .ref q4, .null, .int 0, .int 0, .int 0, .int 0, .int 0, .int 0, .int 0])), (q1, .inl (ca 0, 170, .inl (fun _ => 0))), (q2, .inl (ca 0, 1020, .inl (fun _ => 0))), (q3, .inl (ca 0, 340, .inl (fun _ => 0))), (q4, .inl (ca 1, 2, .inl (fun _ => 0))), (q5, .inl (ca 0, 80, .inl (fun _ => 0)))] H := hP
  have hD : va_D A [(o, .inr (4, [.ref q1, .ref q2, .int 0, .ref q3, .ref q4, .null, .int 0, .int 0, .int 0, .int 0, .int 0, .int 0, .int 0])), (q1, .inl (ca 0, 170, .inl (fun _ => 0))), (q2, .inl (ca 0, 1020, .inl (fun _ => 0))), (q3, .inl (ca 0, 340, .inl (fun _ => 0))), (q4, .inl (ca 1, 2, .inl (fun _ => 0))), (q5, .inl (ca 0, 80, .inl (fun _ => 0)))] := hD
  refine f_putF S cls_M hK hP hD hS 0 rfl 5 (by decide) fl_M_pad rfl rfl hin rfl (rfl) (rfl) (Nat.le_of_ble_eq_true rfl) d_M_init_43 (fun H locs hP hD hS => ?_)
  have hP : va_P D classes [(o, .inr (4, [.ref q1, .ref q2, .int 0, .ref q3, .ref q4, .ref q5, .int 0, .int 0, .int 0, .int 0, .int 0, .int 0, .int 0])), (q1, .inl (ca 0, 170, .inl (fun _ => 0))), (q2, .inl (ca 0, 1020, .inl (fun _ => 0))), (q3, .inl (ca 0, 340, .inl (fun _ => 0))), (q4, .inl (ca 1, 2, .inl (fun _ => 0))), (q5, .inl (ca 0, 80, .inl (fun _ => 0)))] H := hP
  have hD : va_D A [(o, .inr (4, [.ref q1, .ref q2, .int 0, .ref q3, .ref q4, .ref q5, .int 0, .int 0, .int 0, .int 0, .int 0, .int 0, .int 0])), (q1, .inl (ca 0, 170, .inl (fun _ => 0))), (q2, .inl (ca 0, 1020, .inl (fun _ => 0))), (q3, .inl (ca 0, 340, .inl (fun _ => 0))), (q4, .inl (ca 1, 2, .inl (fun _ => 0))), (q5, .inl (ca 0, 80, .inl (fun _ => 0)))] := hD
  refine lv_aload_n hx hb d_M_init_46 rfl (lv_at hl 0 rfl) ?_
  refine f_get S cls_M hK hP 0 rfl 0 (by decide) fl_M_s rfl rfl d_M_init_47 ?_
  refine lv_iconst (v := 0) hx hb d_M_init_50 (by decide) ?_
  refine lv_sipush (v := 600) hx hb d_M_init_51 (by decide) ?_
  refine A_ist S hK hP hD hS 1 0 (f := fun _ => 0) rfl rfl (r := 0) (by omega) (by decide) rfl d_M_init_54 (fun H locs hP hD hS => ?_)
  rw [show upd (fun _ => 0) 0 600 = upd (fun _ => 0) 0 600 from rfl] at hP hD
  have hP : va_P D classes [(o, .inr (4, [.ref q1, .ref q2, .int 0, .ref q3, .ref q4, .ref q5, .int 0, .int 0, .int 0, .int 0, .int 0, .int 0, .int 0])), (q1, .inl (ca 0, 170, .inl (upd (fun _ => 0) 0 600))), (q2, .inl (ca 0, 1020, .inl (fun _ => 0))), (q3, .inl (ca 0, 340, .inl (fun _ => 0))), (q4, .inl (ca 1, 2, .inl (fun _ => 0))), (q5, .inl (ca 0, 80, .inl (fun _ => 0)))] H := hP
  have hD : va_D A [(o, .inr (4, [.ref q1, .ref q2, .int 0, .ref q3, .ref q4, .ref q5, .int 0, .int 0, .int 0, .int 0, .int 0, .int 0, .int 0])), (q1, .inl (ca 0, 170, .inl (upd (fun _ => 0) 0 600))), (q2, .inl (ca 0, 1020, .inl (fun _ => 0))), (q3, .inl (ca 0, 340, .inl (fun _ => 0))), (q4, .inl (ca 1, 2, .inl (fun _ => 0))), (q5, .inl (ca 0, 80, .inl (fun _ => 0)))] := hD
  refine lv_aload_n hx hb d_M_init_55 rfl (lv_at hl 0 rfl) ?_
  refine f_get S cls_M hK hP 0 rfl 0 (by decide) fl_M_s rfl rfl d_M_init_56 ?_
  refine lv_iconst (v := 1) hx hb d_M_init_59 (by decide) ?_
  refine lv_bipush (v := 10) hx hb d_M_init_60 (by decide) ?_
  refine A_ist S hK hP hD hS 1 0 (f := upd (fun _ => 0) 0 600) rfl rfl (r := 1) (by omega) (by decide) rfl d_M_init_62 (fun H locs hP hD hS => ?_)
  rw [show upd (upd (fun _ => 0) 0 600) 1 10 = upd (upd (fun _ => 0) 0 600) 1 10 from rfl] at hP hD
  have hP : va_P D classes [(o, .inr (4, [.ref q1, .ref q2, .int 0, .ref q3, .ref q4, .ref q5, .int 0, .int 0, .int 0, .int 0, .int 0, .int 0, .int 0])), (q1, .inl (ca 0, 170, .inl (upd (upd (fun _ => 0) 0 600) 1 10))), (q2, .inl (ca 0, 1020, .inl (fun _ => 0))), (q3, .inl (ca 0, 340, .inl (fun _ => 0))), (q4, .inl (ca 1, 2, .inl (fun _ => 0))), (q5, .inl (ca 0, 80, .inl (fun _ => 0)))] H := hP
  have hD : va_D A [(o, .inr (4, [.ref q1, .ref q2, .int 0, .ref q3, .ref q4, .ref q5, .int 0, .int 0, .int 0, .int 0, .int 0, .int 0, .int 0])), (q1, .inl (ca 0, 170, .inl (upd (upd (fun _ => 0) 0 600) 1 10))), (q2, .inl (ca 0, 1020, .inl (fun _ => 0))), (q3, .inl (ca 0, 340, .inl (fun _ => 0))), (q4, .inl (ca 1, 2, .inl (fun _ => 0))), (q5, .inl (ca 0, 80, .inl (fun _ => 0)))] := hD
  refine lv_aload_n hx hb d_M_init_63 rfl (lv_at hl 0 rfl) ?_
  refine f_get S cls_M hK hP 0 rfl 0 (by decide) fl_M_s rfl rfl d_M_init_64 ?_
  refine lv_iconst (v := 2) hx hb d_M_init_67 (by decide) ?_
  refine lv_iconst (v := 2) hx hb d_M_init_68 (by decide) ?_
  refine A_ist S hK hP hD hS 1 0 (f := upd (upd (fun _ => 0) 0 600) 1 10) rfl rfl (r := 2) (by omega) (by decide) rfl d_M_init_69 (fun H locs hP hD hS => ?_)
  rw [show upd (upd (upd (fun _ => 0) 0 600) 1 10) 2 2 = gI from g_new] at hP hD
  have hP : va_P D classes [(o, .inr (4, [.ref q1, .ref q2, .int 0, .ref q3, .ref q4, .ref q5, .int 0, .int 0, .int 0, .int 0, .int 0, .int 0, .int 0])), (q1, .inl (ca 0, 170, .inl gI)), (q2, .inl (ca 0, 1020, .inl (fun _ => 0))), (q3, .inl (ca 0, 340, .inl (fun _ => 0))), (q4, .inl (ca 1, 2, .inl (fun _ => 0))), (q5, .inl (ca 0, 80, .inl (fun _ => 0)))] H := hP
  have hD : va_D A [(o, .inr (4, [.ref q1, .ref q2, .int 0, .ref q3, .ref q4, .ref q5, .int 0, .int 0, .int 0, .int 0, .int 0, .int 0, .int 0])), (q1, .inl (ca 0, 170, .inl gI)), (q2, .inl (ca 0, 1020, .inl (fun _ => 0))), (q3, .inl (ca 0, 340, .inl (fun _ => 0))), (q4, .inl (ca 1, 2, .inl (fun _ => 0))), (q5, .inl (ca 0, 80, .inl (fun _ => 0)))] := hD
  exact hret _ _ _ _ _ (five q1 q2 q3 q4 q5) d_M_init_70 rfl hP hD hS
