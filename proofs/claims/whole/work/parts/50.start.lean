theorem Inv_gI : Inv gI := by
  have b0 : bn gI 0 = 0 := by decide
  have b1 : bn gI 1 = 0 := by decide
  unfold Inv
  rw [b0, b1, show (gI 0).toInt = 600 by decide, show (gI 1).toInt = 10 by decide, show (gI 2).toInt = 2 by decide, show (gI 3).toInt = 0 by decide, show (gI 4).toInt = 0 by decide]
  refine ⟨fun f hf => ?_, by omega, by omega, by omega, by omega, by omega, by omega, by omega, by omega, by omega, by omega, fun f b hf hb => ?_, ?_⟩
  · rcases (show f = 0 ∨ f = 1 by omega) with rfl | rfl
    · exact ⟨by decide, by decide⟩
    · exact ⟨by decide, by decide⟩
  · rcases (show f = 0 ∨ f = 1 by omega) with rfl | rfl
    · rw [b0] at hb; omega
    · rw [b1] at hb; omega
  · show (0 : Int) + 0 + 10 ≤ 600
    omega
theorem arr_prim {ty : FieldType} {args : Array Value} {s : State} (h : (Cond.arrayClass ty).before args s = true) : ∃ cA : ClassId, ArrOfT s cA ty ∧ s.vm.findClass ("[" ++ ty.toString) = some cA := by
  obtain ⟨cA, kA, comp, h1, h2, h3⟩ := Cond.arrayClass_spec h
  exact ⟨cA, fun n z => ⟨fun k h => (by cases h), kA, h2, comp, h3⟩, h1⟩
theorem w_AO {args : Array Value} {s : State} (hts : ∀ w ∈ lw_tbl, w.before args s = true) : va_AO "TapeEnds$Tape" s := va_AO.of (hts _ (List.mem_of_getElem? (i := 115) (by decide +kernel)))
theorem arr_T {s : State} (h : va_AO "TapeEnds$Tape" s) : ∃ cA : ClassId, ArrOfT s cA (.object "TapeEnds$Tape") ∧ va_RA s cA (.object "TapeEnds$Tape") := by
  obtain ⟨comp, cA, kA, h1, h2, h3, h4, h5⟩ := Cond.arrayOver_spec h
  exact ⟨cA, fun n z => ⟨fun k h => (by cases h), kA, h3, comp, h4⟩, kA, comp, h3, h4, h1, h5⟩
theorem start_K {args : Array Value} {s : State} (hts : ∀ w ∈ lw_tbl, w.before args s = true) : ∃ (D : va_G) (ca : Nat → ClassId), va_K D classes (tys ca) s := by
  have htb : ∀ w ∈ TB, w.before args s = true := fun w hw => hts w (tb_in hw)
  obtain ⟨c0, i0, k0⟩ := u_known (C := R_E) (T := F_E) (N := 8) (n := 8) htb cls_E.2.1 (htb _ is_E)
  obtain ⟨c1, i1, k1⟩ := u_known (C := R_T) (T := F_T) (N := 13) (n := 13) htb cls_T.2.1 (htb _ is_T)
  obtain ⟨c2, i2, k2⟩ := u_known (C := R_P) (T := F_P) (N := 2) (n := 2) htb cls_P.2.1 (htb _ is_P)
  obtain ⟨c3, i3, k3⟩ := u_known (C := R_R) (T := F_R) (N := 8) (n := 8) htb cls_R.2.1 (htb _ is_R)
  obtain ⟨c4, i4, k4⟩ := u_known (C := R_M) (T := F_M) (N := 13) (n := 13) htb cls_M.2.1 (htb _ is_M)
  obtain ⟨a0, p0, q0⟩ := arr_prim (htb _ ac_int)
  obtain ⟨a1, p1, q1⟩ := arr_prim (htb _ ac_boolean)
  obtain ⟨a2, p2, q2⟩ := arr_prim (htb _ ac_char)
  obtain ⟨a3, p3, q3⟩ := arr_T (w_AO hts)
  refine ⟨(fun k => if k = 0 then c0 else if k = 1 then c1 else if k = 2 then c2 else if k = 3 then c3 else c4, fun k => if k = 0 then i0 else if k = 1 then i1 else if k = 2 then i2 else if k = 3 then i3 else i4), fun k => if k = 0 then a0 else if k = 1 then a1 else if k = 2 then a2 else a3, ?_, ?_⟩
  · intro k q hq
    match k, hq with
    | 0, hq => obtain rfl := Option.some.inj (cls_E.1.symm.trans hq); exact k0
    | 1, hq => obtain rfl := Option.some.inj (cls_T.1.symm.trans hq); exact k1
    | 2, hq => obtain rfl := Option.some.inj (cls_P.1.symm.trans hq); exact k2
    | 3, hq => obtain rfl := Option.some.inj (cls_R.1.symm.trans hq); exact k3
    | 4, hq => obtain rfl := Option.some.inj (cls_M.1.symm.trans hq); exact k4
    | k + 5, hq => simp [classes] at hq
  · intro k q hq
    match k, hq with
    | 0, hq => cases hq; exact ⟨p0, q0⟩
    | 1, hq => cases hq; exact ⟨p1, q1⟩
    | 2, hq => cases hq; exact ⟨p2, q2⟩
    | 3, hq => cases hq; exact ⟨p3, q3⟩
    | k + 4, hq => simp at hq
set_option maxHeartbeats 4000000 in
theorem law_loop {p : Program} {l : Launch} {e : Env} {s : State} {m : MethodId} {below : List Frame} {meth : Method} {c : Code} {D : va_G} {ca : Nat → ClassId} {ad : Nat → Nat} {tT : Nat → Nat} {ps : Nat → Nat → Nat} {b L cells slots : Nat} {xs : Nat → Int32} (hL : L ≤ 2048) (C0 : lw_At p s m meth c b L xs) (hK : va_K D classes (tys ca) s) (hc : cells ≤ room_1.cells ∧ slots ≤ room_1.slots) :
    ∀ (n i : Nat), i ≤ L → L + 1 ≤ i + n → ∀ (K : cH) (g : Nat → Int32) (ks : Nat → Nat → Int32) (SV P : Nat → Int32) (pl rp : Nat) (wb : Bool) (F : cF) (B SL : Nat → Int32) (mq : Nat) (mw : Bool) (G : Int32 × Int32 × Int32 × Int32) (H : Heap) (locs : List Loc) (ls : Array Slot), JJ K g ks SV P pl B SL → JW D (fun q : Nat => s.heap.size ≤ q) s.heap ca ad tT ps K g ks SV P pl rp wb F B SL mq mw G H locs → lv_has ls 4 [(0, .ref b), (1, .ref (ad 0)), (2, .ref (ad 7)), (3, .int (nI i))] → W p l e room_1 s m #[Value.ref b] below meth c H locs cells slots (lw_Z below #[Value.ref b] s) (F0 m 18 ls []) := by
  obtain ⟨hx, hb, hr, hml, hown, hts, hX, hbl, hlocks, hgv⟩ := C0
  have S : CallFix p m c code 4 s #[Value.ref b] TB "TapeEndsLaw" := ⟨hx, hb, hml, hown, fun w hw => hts w (tb_in hw)⟩
  have hA : ∀ q : Nat, s.heap.size ≤ q → (fun q : Nat => s.heap.size ≤ q) q := fun _ h => h
  have hbA : ¬ (fun q : Nat => s.heap.size ≤ q) b := Nat.not_le.mpr hbl
  intro n
  induction n with
  | zero =>
    intro i h1 h2
    exact absurd h2 (by omega)
  | succ n ih =>
    intro i hi hin K g ks SV P pl rp wb F B SL mq mw G H locs ls hJ hW hl
    refine lv_iload_n hx hb d_L_law_18 rfl (lv_at hl 3 rfl) ?_
    refine lv_aload_n hx hb d_L_law_19 rfl (lv_at hl 0 rfl) ?_
    refine va_slen hx hb hX hbl hbA hW.2.2 d_L_law_20 ?_
    refine lv_iconst (v := 4) hx hb d_L_law_21 (by decide) ?_
    refine lv_isub hx hb d_L_law_22 ?_
    refine lv_icmp_gt (tgt := 728) hx hb d_L_law_23 (by decide) (fun _ => ?_) (fun q => ?_)
    · refine lv_iconst (v := 1) hx hb d_L_law_728 (by decide) ?_
      refine va_forget (fun q hq => hW.2.2.2.2 q hq) ?_
      refine W.widen (k := 600000) (n := 7302250) hc.1 hc.2 ?_
      exact lw_ret hx hb hr hlocks d_L_law_729
    · have h4 : i + 4 ≤ L := by
        have eL : (Int32.ofNat L).toInt = (L : Int) := nI_toInt (n := L) (by omega)
        have e4 : (4 : Int32).toInt = 4 := by decide
        rw [ti_lt, ti_sub (by rw [eL, e4]; omega) (by rw [eL, e4]; omega), eL, e4, nI_toInt (by omega)] at q
        omega
      refine lv_aload_n hx hb d_L_law_26 rfl (lv_at hl 0 rfl) ?_
      refine lv_iload_n hx hb d_L_law_27 rfl (lv_at hl 3 rfl) ?_
      refine va_sld hx hb hX hbl hbA hW.2.2 (vp_in_nI (show i < L by omega) (by omega)) d_L_law_28 ?_
      refine lv_bipush (v := 31) hx hb d_L_law_29 (by decide) ?_
      refine lv_iand hx hb d_L_law_31 ?_
      obtain ⟨j, hj, ej⟩ := pk_andE (xs (nI i).toNatClampNeg) (m := 31) 5 (by decide)
      refine lv_tope (z := nI j) ej ?_
      have nx : Nxt p l e s m #[Value.ref b] below meth c cells slots (lw_Z below #[Value.ref b] s) D ca (fun q : Nat => s.heap.size ≤ q) ad tT ps b i := by
        intro K g ks SV P pl rp wb F B SL mq mw G H locs ls hJ hW hl
        refine lv_iinc (v := nI (i + 4)) (lv' := [(3, .int (nI (i + 4))), (0, .ref b), (1, .ref (ad 0)), (2, .ref (ad 7))]) hx hb d_L_law_722 hl (k := 3) rfl (by rw [show Int32.ofInt 4 = nI 4 by decide]; exact nI_add i 4) (by decide) rfl (fun ls hl => ?_)
        refine lv_goto (tgt := 18) hx hb d_L_law_725 (by decide) ?_
        exact ih (i + 4) h4 (by omega) _ _ _ _ _ _ _ _ _ _ _ _ _ _ _ _ _ hJ hW (lv_sub hl [1, 2, 3, 0] rfl)
      by_cases h22 : j < 22
      · rcases (show j = 0 ∨ j = 1 ∨ j = 2 ∨ j = 3 ∨ j = 4 ∨ j = 5 ∨ j = 6 ∨ j = 7 ∨ j = 8 ∨ j = 9 ∨ j = 10 ∨ j = 11 ∨ j = 12 ∨ j = 13 ∨ j = 14 ∨ j = 15 ∨ j = 16 ∨ j = 17 ∨ j = 18 ∨ j = 19 ∨ j = 20 ∨ j = 21 by omega) with rfl | rfl | rfl | rfl | rfl | rfl | rfl | rfl | rfl | rfl | rfl | rfl | rfl | rfl | rfl | rfl | rfl | rfl | rfl | rfl | rfl | rfl
        · exact lv_tableIn (off := 104) (tgt := 136) hx hb d_L_law_32 (by decide) (by decide) (by decide +kernel) (by decide) (law_length S hA hK hc hX hbl hbA hL h4 nx hJ hW hl)
        · exact lv_tableIn (off := 127) (tgt := 159) hx hb d_L_law_32 (by decide) (by decide) (by decide +kernel) (by decide) (law_tune S hA hK hc hX hbl hbA hL h4 nx hJ hW hl)
        · exact lv_tableIn (off := 160) (tgt := 192) hx hb d_L_law_32 (by decide) (by decide) (by decide +kernel) (by decide) (law_write S hA hK hc hX hbl hbA hL h4 nx hJ hW hl)
        · exact lv_tableIn (off := 203) (tgt := 235) hx hb d_L_law_32 (by decide) (by decide) (by decide +kernel) (by decide) (law_cut S hA hK hc hX hbl hbA hL h4 nx hJ hW hl)
        · exact lv_tableIn (off := 236) (tgt := 268) hx hb d_L_law_32 (by decide) (by decide) (by decide +kernel) (by decide) (law_move S hA hK hc hX hbl hbA hL h4 nx hJ hW hl)
        · exact lv_tableIn (off := 259) (tgt := 291) hx hb d_L_law_32 (by decide) (by decide) (by decide +kernel) (by decide) (law_rewind S hA hK hc hX hbl hbA hL h4 nx hJ hW hl)
        · exact lv_tableIn (off := 272) (tgt := 304) hx hb d_L_law_32 (by decide) (by decide) (by decide +kernel) (by decide) (law_read S hA hK hc hX hbl hbA hL h4 nx hJ hW hl)
        · exact lv_tableIn (off := 315) (tgt := 347) hx hb d_L_law_32 (by decide) (by decide) (by decide +kernel) (by decide) (law_splice S hA hK hc hX hbl hbA hL h4 nx hJ hW hl)
        · exact lv_tableIn (off := 348) (tgt := 380) hx hb d_L_law_32 (by decide) (by decide) (by decide +kernel) (by decide) (law_ofFile S hA hK hc hX hbl hbA hL h4 nx hJ hW hl)
        · exact lv_tableIn (off := 381) (tgt := 413) hx hb d_L_law_32 (by decide) (by decide) (by decide +kernel) (by decide) (law_ofBlock S hA hK hc hX hbl hbA hL h4 nx hJ hW hl)
        · exact lv_tableIn (off := 424) (tgt := 456) hx hb d_L_law_32 (by decide) (by decide) (by decide +kernel) (by decide) (law_at S hA hK hc hX hbl hbA hL h4 nx hJ hW hl)
        · exact lv_tableIn (off := 447) (tgt := 479) hx hb d_L_law_32 (by decide) (by decide) (by decide +kernel) (by decide) (law_count S hA hK hc hX hbl hbA hL h4 nx hJ hW hl)
        · exact lv_tableIn (off := 470) (tgt := 502) hx hb d_L_law_32 (by decide) (by decide) (by decide +kernel) (by decide) (law_fits S hA hK hc hX hbl hbA hL h4 nx hJ hW hl)
        · exact lv_tableIn (off := 493) (tgt := 525) hx hb d_L_law_32 (by decide) (by decide) (by decide +kernel) (by decide) (law_rooms S hA hK hc hX hbl hbA hL h4 nx hJ hW hl)
        · exact lv_tableIn (off := 516) (tgt := 548) hx hb d_L_law_32 (by decide) (by decide) (by decide +kernel) (by decide) (law_nearest S hA hK hc hX hbl hbA hL h4 nx hJ hW hl)
        · exact lv_tableIn (off := 539) (tgt := 571) hx hb d_L_law_32 (by decide) (by decide) (by decide +kernel) (by decide) (law_put S hA hK hc hX hbl hbA hL h4 nx hJ hW hl)
        · exact lv_tableIn (off := 592) (tgt := 624) hx hb d_L_law_32 (by decide) (by decide) (by decide +kernel) (by decide) (law_wipe S hA hK hc hX hbl hbA hL h4 nx hJ hW hl)
        · exact lv_tableIn (off := 605) (tgt := 637) hx hb d_L_law_32 (by decide) (by decide) (by decide +kernel) (by decide) (law_fault S hA hK hc hX hbl hbA hL h4 nx hJ hW hl)
        · exact lv_tableIn (off := 618) (tgt := 650) hx hb d_L_law_32 (by decide) (by decide) (by decide +kernel) (by decide) (law_carryOut S hA hK hc hX hbl hbA hL h4 nx hJ hW hl)
        · exact lv_tableIn (off := 631) (tgt := 663) hx hb d_L_law_32 (by decide) (by decide) (by decide +kernel) (by decide) (law_undo S hA hK hc hX hbl hbA hL h4 nx hJ hW hl)
        · exact lv_tableIn (off := 644) (tgt := 676) hx hb d_L_law_32 (by decide) (by decide) (by decide +kernel) (by decide) (law_save S hA hK hc hX hbl hbA hL h4 nx hJ hW hl)
        · exact lv_tableIn (off := 667) (tgt := 699) hx hb d_L_law_32 (by decide) (by decide) (by decide +kernel) (by decide) (law_restore S hA hK hc hX hbl hbA hL h4 nx hJ hW hl)
      · refine lv_tableOut (tgt := 722) hx hb d_L_law_32 (Or.inr (by rw [nI_toInt (by omega)]; omega)) (by decide) ?_
        exact nx _ _ _ _ _ _ _ _ _ _ _ _ _ _ _ _ _ hJ hW hl
theorem fl_2 {bs : List va_W} {m : va_W} : [bs.flatten, m].flatten = (bs ++ [m]).flatten := by simp
set_option maxHeartbeats 8000000 in
/-- from the entry to the loop -/
theorem whole_start {p : Program} {e : Env} {s : State} {m : MethodId} {below : List Frame} {meth : Method} {c : Code} (l : Launch) (hflags : l.flags = flags0) {b L : Nat} {xs : Nat → Int32} (hL : L ≤ 2048) (C0 : lw_At p s m meth c b L xs) : W p l e room_1 s m #[Value.ref b] below meth c s.heap [] 0 0 (lw_Z below #[Value.ref b] s) (entryFrame m ([Value.ref b] : List Value).toArray 4) := by
  obtain ⟨hx, hb, hr, hml, hown, hts, hX, hbl, hlocks, hgv⟩ := id C0
  have S : CallFix p m c code 4 s #[Value.ref b] TB "TapeEndsLaw" := ⟨hx, hb, hml, hown, fun w hw => hts w (tb_in hw)⟩
  obtain ⟨D, ca, hK⟩ := start_K hts
  have hAO := w_AO hts
  have hA : ∀ q : Nat, s.heap.size ≤ q → (fun q : Nat => s.heap.size ≤ q) q := fun _ h => h
  have hS : va_S (fun q : Nat => s.heap.size ≤ q) s.heap s.heap [] := va_S.rf
  have hP : va_P D classes ([] : va_W) s.heap := fun k q h => by simp at h
  have hD : va_D (fun q : Nat => s.heap.size ≤ q) ([] : va_W) := ⟨fun i j p q h => by simp at h, fun k q h => by simp at h⟩
  have hl := lv_entry ([.ref b]) (n := 4) (Nat.le_of_ble_eq_true rfl)
  rw [lg_entry_eq]
  generalize (lg_sl ([.ref b]) ++ List.replicate (4 - (lg_sl ([.ref b])).length) Slot.unset).toArray = ls at hl ⊢
  have hl : lv_has ls 4 [(0, .ref b)] := hl
  refine o_new (ci := 0) (fs := [.null, .null, .null, .null, .null, .null, .null, .int 0]) S cls_E cl_L_7 is_E in_E hK hP hD hS hA (fun j hj => by rcases (show j = 0 ∨ j = 1 ∨ j = 2 ∨ j = 3 ∨ j = 4 ∨ j = 5 ∨ j = 6 ∨ j = 7 by omega) with rfl | rfl | rfl | rfl | rfl | rfl | rfl | rfl <;> rfl) (Nat.le_of_ble_eq_true rfl) (Nat.le_of_ble_eq_true rfl) d_L_law_0 (fun o H hP hD hS => ?_)
  refine lv_dup hx hb d_L_law_3 rfl ?_
  refine IN.callI (wr := []) S (c_E_init l D ca o) k_L_9 hAO hP hD hS hA hK [0] [] rfl rfl rfl rfl (by decide) rfl rfl hl.1 ⟨Nat.le_of_ble_eq_true rfl, Nat.le_of_ble_eq_true rfl⟩ ⟨Nat.le_of_ble_eq_true rfl, Nat.le_of_ble_eq_true rfl⟩ (Nat.le_of_ble_eq_true rfl) d_L_law_4 (fun u H locs hP hD hS => ?_)
  refine lv_astore_n (lv' := [(1, .ref o), (0, .ref b)]) hx hb d_L_law_7 rfl hl (by decide) rfl (fun ls hl => ?_)
  generalize hwE : List.flatten _ = wE at hP hD
  have hP : va_P D classes wE H := hP
  have hD : va_D (fun q : Nat => s.heap.size ≤ q) wE := hD
  refine o_new (ci := 4) (fs := [.null, .null, .int 0, .null, .null, .null, .int 0, .int 0, .int 0, .int 0, .int 0, .int 0, .int 0]) S cls_M cl_L_10 is_M in_M hK hP hD hS hA (fun j hj => by rcases (show j = 0 ∨ j = 1 ∨ j = 2 ∨ j = 3 ∨ j = 4 ∨ j = 5 ∨ j = 6 ∨ j = 7 ∨ j = 8 ∨ j = 9 ∨ j = 10 ∨ j = 11 ∨ j = 12 by omega) with rfl | rfl | rfl | rfl | rfl | rfl | rfl | rfl | rfl | rfl | rfl | rfl | rfl <;> rfl) (Nat.le_of_ble_eq_true rfl) (Nat.le_of_ble_eq_true rfl) d_L_law_8 (fun o2 H hP hD hS => ?_)
  refine lv_dup hx hb d_L_law_11 rfl ?_
  refine IN.callB (wf := fun v : Nat → Nat => [(o2, .inr (4, [.ref (v 1), .ref (v 2), .int 0, .ref (v 3), .ref (v 4), .ref (v 5), .int 0, .int 0, .int 0, .int 0, .int 0, .int 0, .int 0])), (v 1, .inl (ca 0, 170, .inl gI)), (v 2, .inl (ca 0, 1020, .inl (fun _ => 0))), (v 3, .inl (ca 0, 340, .inl (fun _ => 0))), (v 4, .inl (ca 1, 2, .inl (fun _ => 0))), (v 5, .inl (ca 0, 80, .inl (fun _ => 0)))]) (bs := [wE, [(o2, .inr (4, [.null, .null, .int 0, .null, .null, .null, .int 0, .int 0, .int 0, .int 0, .int 0, .int 0, .int 0]))]]) (bc := [[(o2, .inr (4, [.null, .null, .int 0, .null, .null, .null, .int 0, .int 0, .int 0, .int 0, .int 0, .int 0, .int 0]))]]) (br := [wE]) (fun v => [[(o2, .inr (4, [.ref (v 1), .ref (v 2), .int 0, .ref (v 3), .ref (v 4), .ref (v 5), .int 0, .int 0, .int 0, .int 0, .int 0, .int 0, .int 0])), (v 1, .inl (ca 0, 170, .inl gI)), (v 2, .inl (ca 0, 1020, .inl (fun _ => 0))), (v 3, .inl (ca 0, 340, .inl (fun _ => 0))), (v 4, .inl (ca 1, 2, .inl (fun _ => 0))), (v 5, .inl (ca 0, 80, .inl (fun _ => 0)))]]) S (c_M_init l D ca o2) k_L_12 hAO hP hD hS hA hK [1] [0] rfl rfl rfl (fun _ => rfl) rfl rfl (by decide) rfl rfl hl.1 ⟨Nat.le_of_ble_eq_true rfl, Nat.le_of_ble_eq_true rfl⟩ ⟨Nat.le_of_ble_eq_true rfl, Nat.le_of_ble_eq_true rfl⟩ (Nat.le_of_ble_eq_true rfl) d_L_law_12 (fun v H locs hP hD hS => ?_)
  refine lv_astore_n (lv' := [(2, .ref o2), (1, .ref o), (0, .ref b)]) hx hb d_L_law_15 rfl hl (by decide) rfl (fun ls hl => ?_)
  refine lv_iconst (v := 0) hx hb d_L_law_16 (by decide) ?_
  refine lv_istore_n (lv' := [(3, .int 0), (2, .ref o2), (1, .ref o), (0, .ref b)]) hx hb d_L_law_17 rfl hl (by decide) rfl (fun ls hl => ?_)
  obtain ⟨ad, had⟩ : ∃ ad : Nat → Nat, ad = fun j => if j = 0 then o else if j = 1 then u.2 0 else if j = 2 then u.2 1 else if j = 3 then u.2 2 else if j = 4 then u.2 3 else if j = 5 then u.2 4 else if j = 6 then u.2 5 else if j = 7 then o2 else if j = 8 then v 1 else if j = 9 then v 2 else if j = 10 then v 3 else if j = 11 then v 4 else v 5 := ⟨_, rfl⟩
  have x0 : o = ad 0 := by rw [had]; rfl
  have x7 : o2 = ad 7 := by rw [had]; rfl
  have hl4 : lv_has ls 4 [(0, .ref b), (1, .ref (ad 0)), (2, .ref (ad 7)), (3, .int (nI 0))] := by
    rw [← x0, ← x7]
    exact lv_sub hl [3, 2, 1, 0] rfl
  refine law_loop (ad := ad) (tT := u.1 0) (ps := fun j => u.1 (8 + j)) hL C0 hK ⟨Nat.le_of_ble_eq_true rfl, Nat.le_of_ble_eq_true rfl⟩ (L + 1) 0 (Nat.zero_le _) (by omega) (fun j => u.1 (2 + j), fun _ => gI, u.1 1, gI, 0) gI (fun _ => gI) (fun _ => 0) (fun _ => 0) 0 0 false (0, 0, 0, 0, 0) (fun _ => 0) (fun _ => 0) 0 false (0, 0, 0, 0) H locs ls ⟨Inv_gI, Nat.zero_le _, Nat.zero_le _, fun j hj => absurd hj (Nat.not_lt_zero _), fun i hi => absurd hi (Nat.not_lt_zero _), fun f hf h => absurd rfl h⟩ ?_ hl4
  have hW : WW D (fun q : Nat => s.heap.size ≤ q) s.heap [wE, (WM ca ad gI (fun _ => 0) (fun _ => 0) (fun _ => 0) (fun _ => 0) 0 0 0 false (0, 0, 0, 0)).flatten].flatten H locs := by
    rw [had]
    exact ⟨hP, hD, hS⟩
  unfold JW
  rw [← fl_sn]
  have hW2 := hW
  rw [← hwE, fl_2] at hW2
  subst had
  exact hW2.perm [0, 1, 2, 3, 6, 4, 5, 7, 8, 9, 10, 11, 12, 13, 14, 15, 16, 17] rfl rfl
