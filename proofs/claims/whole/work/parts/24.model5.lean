set_option maxHeartbeats 4000000 in
set_option maxRecDepth 100000 in
theorem c_M_put (l : Launch) (D : va_G) (ca : Nat → ClassId) (o sa ba sl sv pd : Nat) (fs : List Value) (P : Nat → Int32) (kn pl N : Nat) (hN : N < 2 ^ 64) (hpl : pl ≤ 80) : MI l y_M_put b_M_put 8 (some .int) 1 22 D ca [.ref o, .long (lN N)] [(o, .inr (4, (.ref sa :: .ref ba :: .int (nI kn) :: .ref sl :: .ref sv :: .ref pd :: .int (nI pl) :: fs))), (pd, .inl (ca 0, 80, .inl P))] ((m_put P pl N).1) [(o, .inr (4, (.ref sa :: .ref ba :: .int (nI kn) :: .ref sl :: .ref sv :: .ref pd :: .int (nI ((m_put P pl N).2.2)) :: fs))), (pd, .inl (ca 0, 80, .inl ((m_put P pl N).2.1)))] := by
  refine MI.mk (ty := .int) rfl rfl (Nat.le_of_ble_eq_true rfl) ?_
  intro p e s m args below meth c Q A S hA hP hD hK
  obtain ⟨hx, hb, hml, hown, hts⟩ := id S
  intro hret ls hl0 hS
  have hl : lv_has ls 8 [(0, .ref o), (1, .long (lN N))] := hl0
  refine lv_iconst (v := 0) hx hb d_M_put_0 (by decide) ?_
  refine lv_istore_n (lv' := [(3, .int 0), (0, .ref o), (1, .long (lN N))]) hx hb d_M_put_1 rfl hl (by decide) rfl (fun ls hl => ?_)
  refine lv_iconst (v := 0) hx hb d_M_put_2 (by decide) ?_
  refine lv_istore (lv' := [(4, .int 0), (3, .int 0), (0, .ref o), (1, .long (lN N))]) hx hb d_M_put_3 hl (by decide) rfl (fun ls hl => ?_)
  refine lv_iconst (v := 0) hx hb d_M_put_5 (by decide) ?_
  refine lv_istore (lv' := [(5, .int 0), (4, .int 0), (3, .int 0), (0, .ref o), (1, .long (lN N))]) hx hb d_M_put_6 hl (by decide) rfl (fun ls hl => ?_)
  suffices lp : ∀ (r k mm : Nat) (bad : Bool), 8 - k < r → k ≤ 8 → mm ≤ k → mpt N 8 0 0 false = mpt N (8 - k) k mm bad → ∀ ls : Array Slot, lv_has ls 8 [(5, .int (nI k)), (4, .int (b2 bad)), (3, .int (nI mm)), (0, .ref o), (1, .long (lN N))] → W p l e (rm 1 22 0 0) s m args below meth c s.heap [] 0 0 Q (F0 m 8 ls []) from lp 9 0 0 false (by omega) (by omega) (by omega) rfl _ (lv_sub hl [0, 1, 2, 3, 4] rfl)
  intro r
  induction r with
  | zero => intro k mm bad hk; omega
  | succ r ih =>
    intro k mm bad hk hkn hmk hE ls hl
    refine lv_iload hx hb d_M_put_8 (lv_at hl 0 rfl) ?_
    refine lv_bipush (v := 8) hx hb d_M_put_10 (by decide) ?_
    refine lv_icmp_ge (tgt := 101) hx hb d_M_put_12 (by decide) (fun c_12 => ?_) (fun c_12 => ?_)
    · have e_12 : 8 ≤ k := le_of_nI (by omega) (by omega) (show nI 8 ≤ nI k from c_12)
      obtain rfl : k = 8 := by omega
      have hR : mpt N 8 0 0 false = (mm, bad) := hE
      refine lv_iload hx hb d_M_put_101 (lv_at hl 1 rfl) ?_
      refine lv_if_eq (tgt := 109) hx hb d_M_put_103 (by decide) (fun c_103 => ?_) (fun c_103 => ?_)
      · have e_103 : bad = false := b2_z c_103
        rw [e_103] at hR
        refine lv_aload_n hx hb d_M_put_109 rfl (lv_at hl 3 rfl) ?_
        refine f_get S cls_M hK hP 0 rfl 6 (by decide) fl_M_padLength rfl rfl d_M_put_110 ?_
        refine lv_iload_n hx hb d_M_put_113 rfl (lv_at hl 2 rfl) ?_
        refine lv_iadd hx hb d_M_put_114 ?_
        refine lv_tope (z := nI (pl + mm)) (nI_add pl mm) ?_
        refine lv_bipush (v := 80) hx hb d_M_put_115 (by decide) ?_
        refine lv_icmp_le (tgt := 123) hx hb d_M_put_117 (by decide) (fun c_117 => ?_) (fun c_117 => ?_)
        · have e_117 : pl + mm ≤ 80 := le_of_nI (b := pl + mm) (a := 80) (by omega) (by omega) c_117
          refine lv_iconst (v := 0) hx hb d_M_put_123 (by decide) ?_
          refine lv_istore (lv' := [(5, .int 0), (4, .int (b2 bad)), (3, .int (nI mm)), (0, .ref o), (1, .long (lN N))]) hx hb d_M_put_124 hl (by decide) rfl (fun ls hl => ?_)
          suffices lp2 : ∀ (r2 k2 : Nat), mm - k2 < r2 → k2 ≤ mm → ∀ (H : Heap) (locs : List Loc), va_P D classes [(o, .inr (4, (.ref sa :: .ref ba :: .int (nI kn) :: .ref sl :: .ref sv :: .ref pd :: .int (nI pl) :: fs))), (pd, .inl (ca 0, 80, .inl (apm P pl N mm k2)))] H → va_D A [(o, .inr (4, (.ref sa :: .ref ba :: .int (nI kn) :: .ref sl :: .ref sv :: .ref pd :: .int (nI pl) :: fs))), (pd, .inl (ca 0, 80, .inl (apm P pl N mm k2)))] → va_S A s.heap H locs → ∀ ls : Array Slot, lv_has ls 8 [(5, .int (nI k2)), (3, .int (nI mm)), (0, .ref o), (1, .long (lN N))] → W p l e (rm 1 22 0 0) s m args below meth c H locs 0 0 Q (F0 m 126 ls []) from lp2 (mm + 1) 0 (by omega) (by omega) _ _ (by rw [apm_0]; exact hP) (by rw [apm_0]; exact hD) hS _ (lv_sub hl [0, 2, 3, 4] rfl)
          intro r2
          induction r2 with
          | zero => intro k2 hk2; omega
          | succ r2 ih2 =>
            intro k2 hk2 hkm H locs hP hD hS ls hl
            refine lv_iload hx hb d_M_put_126 (lv_at hl 0 rfl) ?_
            refine lv_iload_n hx hb d_M_put_128 rfl (lv_at hl 1 rfl) ?_
            refine lv_icmp_ge (tgt := 166) hx hb d_M_put_129 (by decide) (fun c_129 => ?_) (fun c_129 => ?_)
            · have e_129 : mm ≤ k2 := le_of_nI (by omega) (by omega) c_129
              obtain rfl : mm = k2 := by omega
              refine lv_aload_n hx hb d_M_put_166 rfl (lv_at hl 2 rfl) ?_
              refine lv_dup hx hb d_M_put_167 rfl ?_
              refine f_get S cls_M hK hP 0 rfl 6 (by decide) fl_M_padLength rfl rfl d_M_put_168 ?_
              refine lv_iload_n hx hb d_M_put_171 rfl (lv_at hl 1 rfl) ?_
              refine lv_iadd hx hb d_M_put_172 ?_
              refine lv_tope (z := nI (pl + mm)) (nI_add pl mm) ?_
              refine f_put S cls_M hK hP hD hS 0 rfl 6 (by decide) fl_M_padLength rfl rfl (rfl) (rfl) (Nat.le_of_ble_eq_true rfl) d_M_put_173 (fun H locs hP hD hS => ?_)
              have hP : va_P D classes [(o, .inr (4, (.ref sa :: .ref ba :: .int (nI kn) :: .ref sl :: .ref sv :: .ref pd :: .int (nI (pl + mm)) :: fs))), (pd, .inl (ca 0, 80, .inl (apm P pl N mm mm)))] H := hP
              have hD : va_D A [(o, .inr (4, (.ref sa :: .ref ba :: .int (nI kn) :: .ref sl :: .ref sv :: .ref pd :: .int (nI (pl + mm)) :: fs))), (pd, .inl (ca 0, 80, .inl (apm P pl N mm mm)))] := hD
              refine lv_aload_n hx hb d_M_put_176 rfl (lv_at hl 2 rfl) ?_
              refine f_get S cls_M hK hP 0 rfl 6 (by decide) fl_M_padLength rfl rfl d_M_put_177 ?_
              exact hret _ _ _ _ _ _ d_M_put_180 rfl (by first | (simp only [m_put, Bool.false_eq_true, hR, e_117, ↓reduceIte]; done) | (simp only [m_put, Bool.false_eq_true, hR, e_117, ↓reduceIte]; rfl) | rfl) (by first | (simp only [m_put, Bool.false_eq_true, hR, e_117, ↓reduceIte]; done) | (simp only [m_put, Bool.false_eq_true, hR, e_117, ↓reduceIte]; rfl) | rfl) hP hD hS
            · have e_129 : k2 < mm := nle_lt (by omega) (by omega) c_129
              refine lv_aload_n hx hb d_M_put_132 rfl (lv_at hl 2 rfl) ?_
              refine f_get S cls_M hK hP 0 rfl 5 (by decide) fl_M_pad rfl rfl d_M_put_133 ?_
              refine lv_aload_n hx hb d_M_put_136 rfl (lv_at hl 2 rfl) ?_
              refine f_get S cls_M hK hP 0 rfl 6 (by decide) fl_M_padLength rfl rfl d_M_put_137 ?_
              refine lv_iload_n hx hb d_M_put_140 rfl (lv_at hl 1 rfl) ?_
              refine lv_iadd hx hb d_M_put_141 ?_
              refine lv_tope (z := nI (pl + mm)) (nI_add pl mm) ?_
              refine lv_iconst (v := 1) hx hb d_M_put_142 (by decide) ?_
              refine lv_isub hx hb d_M_put_143 ?_
              refine lv_tope (z := nI (pl + mm - 1)) (pk_sub (a := pl + mm) (b := 1) (by omega)) ?_
              refine lv_iload hx hb d_M_put_144 (lv_at hl 0 rfl) ?_
              refine lv_isub hx hb d_M_put_146 ?_
              refine lv_tope (z := nI (pl + mm - 1 - k2)) (pk_sub (by omega)) ?_
              refine lv_lload_n hx hb d_M_put_147 rfl (lv_at hl 3 rfl) ?_
              refine lv_bipush (v := 8) hx hb d_M_put_148 (by decide) ?_
              refine lv_iload hx hb d_M_put_150 (lv_at hl 0 rfl) ?_
              refine lv_imul hx hb d_M_put_152 ?_
              refine lv_tope (z := nI (8 * k2)) (pk_mul 8 k2) ?_
              refine lv_lushr (v := lN (hby N k2)) hx hb d_M_put_153 (l_shr hN (by omega)) ?_
              refine lv_ldc2 (v := 255) hx hb hown (hts _ ct_M_121) d_M_put_154 ?_
              refine lv_land hx hb d_M_put_157 ?_
              refine lv_topel (z := lN (byt N k2)) (l_and hN k2) ?_
              refine lv_l2i (v := nI (byt N k2)) hx hb d_M_put_158 (lN_i (byt N k2)) ?_
              refine A_ist S hK hP hD hS 1 0 (f := apm P pl N mm k2) rfl rfl (r := pl + mm - 1 - k2) (by omega) (by decide) rfl d_M_put_159 (fun H locs hP hD hS => ?_)
              rw [show upd (apm P pl N mm k2) (pl + mm - 1 - k2) (nI (byt N k2)) = apm P pl N mm (k2 + 1) from apm_s P (by omega)] at hP hD
              have hP : va_P D classes [(o, .inr (4, (.ref sa :: .ref ba :: .int (nI kn) :: .ref sl :: .ref sv :: .ref pd :: .int (nI pl) :: fs))), (pd, .inl (ca 0, 80, .inl (apm P pl N mm (k2 + 1))))] H := hP
              have hD : va_D A [(o, .inr (4, (.ref sa :: .ref ba :: .int (nI kn) :: .ref sl :: .ref sv :: .ref pd :: .int (nI pl) :: fs))), (pd, .inl (ca 0, 80, .inl (apm P pl N mm (k2 + 1))))] := hD
              refine lv_iinc (v := nI (k2 + 1)) (lv' := [(5, .int (nI (k2 + 1))), (3, .int (nI mm)), (0, .ref o), (1, .long (lN N))]) hx hb d_M_put_160 hl (k := 0) rfl (nI_1 k2) (by decide) rfl (fun ls hl => ?_)
              refine lv_goto (tgt := 126) hx hb d_M_put_163 (by decide) ?_
              exact ih2 (k2 + 1) (by omega) (by omega) _ _ hP hD hS _ (lv_sub hl [0, 1, 2, 3] rfl)
        · have e_117 : ¬ pl + mm ≤ 80 := fun z => c_117 (nI_le (b := 80) z (by omega))
          refine lv_bipush (v := (-4)) hx hb d_M_put_120 (by decide) ?_
          exact hret _ _ _ _ _ _ d_M_put_122 rfl (by first | (simp only [m_put, Bool.false_eq_true, hR, e_117, ↓reduceIte]; done) | (simp only [m_put, Bool.false_eq_true, hR, e_117, ↓reduceIte]; rfl) | rfl) (by first | (simp only [m_put, Bool.false_eq_true, hR, e_117, ↓reduceIte]; done) | (simp only [m_put, Bool.false_eq_true, hR, e_117, ↓reduceIte]; rfl) | rfl) hP hD hS
      · have e_103 : bad = true := b2_n c_103
        rw [e_103] at hR
        refine lv_bipush (v := (-2)) hx hb d_M_put_106 (by decide) ?_
        exact hret _ _ _ _ _ _ d_M_put_108 rfl (by first | (simp only [m_put, Bool.false_eq_true, hR, ↓reduceIte]; done) | (simp only [m_put, Bool.false_eq_true, hR, ↓reduceIte]; rfl) | rfl) (by first | (simp only [m_put, Bool.false_eq_true, hR, ↓reduceIte]; done) | (simp only [m_put, Bool.false_eq_true, hR, ↓reduceIte]; rfl) | rfl) hP hD hS
    · have e_12 : k < 8 := nle_lt (by omega) (by omega) (show ¬ nI 8 ≤ nI k from c_12)
      rw [show 8 - k = (8 - (k + 1)) + 1 by omega] at hE
      refine lv_lload_n hx hb d_M_put_15 rfl (lv_at hl 4 rfl) ?_
      refine lv_bipush (v := 8) hx hb d_M_put_16 (by decide) ?_
      refine lv_iload hx hb d_M_put_18 (lv_at hl 0 rfl) ?_
      refine lv_imul hx hb d_M_put_20 ?_
      refine lv_tope (z := nI (8 * k)) (pk_mul 8 k) ?_
      refine lv_lushr (v := lN (hby N k)) hx hb d_M_put_21 (l_shr hN (by omega)) ?_
      refine lv_ldc2 (v := 255) hx hb hown (hts _ ct_M_121) d_M_put_22 ?_
      refine lv_land hx hb d_M_put_25 ?_
      refine lv_topel (z := lN (byt N k)) (l_and hN k) ?_
      refine lv_l2i (v := nI (byt N k)) hx hb d_M_put_26 (lN_i (byt N k)) ?_
      refine lv_istore (lv' := [(6, .int (nI (byt N k))), (5, .int (nI k)), (4, .int (b2 bad)), (3, .int (nI mm)), (0, .ref o), (1, .long (lN N))]) hx hb d_M_put_27 hl (by decide) rfl (fun ls hl => ?_)
      refine lv_iload hx hb d_M_put_29 (lv_at hl 1 rfl) ?_
      refine lv_if_le (tgt := 50) hx hb d_M_put_31 (by decide) (fun c_31 => ?_) (fun c_31 => ?_)
      · have e_31 : ¬ 0 < k := fun z => by have := nI_nle z (by omega); exact this c_31
        have hen : isE N k = false := by unfold isE; simp; omega
        refine lv_iconst (v := 0) hx hb d_M_put_50 (by decide) ?_
        refine lv_istore (lv' := [(7, .int 0), (6, .int (nI (byt N k))), (5, .int (nI k)), (4, .int (b2 bad)), (3, .int (nI mm)), (0, .ref o), (1, .long (lN N))]) hx hb d_M_put_51 hl (by decide) rfl (fun ls hl => ?_)
        refine lv_iload hx hb d_M_put_53 (lv_at hl 3 rfl) ?_
        refine lv_if_ne (tgt := 75) hx hb d_M_put_55 (by decide) (fun c_55 => ?_) (fun c_55 => ?_)
        · have e_55 : bad = true := b2_n c_55
          refine lv_iconst (v := 1) hx hb d_M_put_75 (by decide) ?_
          refine lv_goto (tgt := 80) hx hb d_M_put_76 (by decide) ?_
          refine lv_istore (lv' := [(4, .int 1), (7, .int 0), (6, .int (nI (byt N k))), (5, .int (nI k)), (3, .int (nI mm)), (0, .ref o), (1, .long (lN N))]) hx hb d_M_put_80 hl (by decide) rfl (fun ls hl => ?_)
          refine lv_iload_n hx hb d_M_put_82 rfl (lv_at hl 4 rfl) ?_
          refine lv_iload hx hb d_M_put_83 (lv_at hl 1 rfl) ?_
          refine lv_if_eq (tgt := 92) hx hb d_M_put_85 (by decide) (fun _ => ?_) (fun q => absurd (by decide) q)
          refine lv_iconst (v := 1) hx hb d_M_put_92 (by decide) ?_
          refine lv_iadd hx hb d_M_put_93 ?_
          refine lv_tope (z := nI (mm + 1)) (nI_add mm 1) ?_
          refine lv_istore_n (lv' := [(3, .int (nI (mm + 1))), (4, .int 1), (7, .int 0), (6, .int (nI (byt N k))), (5, .int (nI k)), (0, .ref o), (1, .long (lN N))]) hx hb d_M_put_94 rfl hl (by decide) rfl (fun ls hl => ?_)
          refine lv_iinc (v := nI (k + 1)) (lv' := [(5, .int (nI (k + 1))), (3, .int (nI (mm + 1))), (4, .int 1), (7, .int 0), (6, .int (nI (byt N k))), (0, .ref o), (1, .long (lN N))]) hx hb d_M_put_95 hl (k := 4) rfl (nI_1 k) (by decide) rfl (fun ls hl => ?_)
          refine lv_goto (tgt := 8) hx hb d_M_put_98 (by decide) ?_
          exact ih (k + 1) (mm + 1) true (by omega) (by omega) (by omega) (by rw [hE]; simp only [mpt, hen, e_55, Bool.false_eq_true, Bool.not_true, Bool.not_false, Bool.and_true, Bool.and_false, Bool.true_and, Bool.false_and, Bool.or_true, Bool.or_false, Bool.true_or, Bool.false_or, ↓reduceIte]) _ (lv_sub hl [0, 2, 1, 5, 6] rfl)
        · have e_55 : bad = false := b2_z c_55
          refine lv_iload hx hb d_M_put_58 (lv_at hl 0 rfl) ?_
          refine lv_if_ne (tgt := 79) hx hb d_M_put_60 (by decide) (fun q => absurd (by decide) q) (fun _ => ?_)
          refine lv_iload hx hb d_M_put_63 (lv_at hl 1 rfl) ?_
          refine lv_bipush (v := 33) hx hb d_M_put_65 (by decide) ?_
          refine lv_bipush (v := 126) hx hb d_M_put_67 (by decide) ?_
          refine RO.callS S (c_M_in l D ca  (nI (byt N k)) 33 126 ) k_M_26 hK rfl rfl hl.1 ⟨Nat.le_of_ble_eq_true rfl, Nat.le_of_ble_eq_true rfl⟩ ⟨Nat.zero_le _, Nat.zero_le _⟩ (Nat.le_of_ble_eq_true rfl) d_M_put_69 ?_
          refine lv_if_ne (tgt := 79) hx hb d_M_put_72 (by decide) (fun c_72 => ?_) (fun c_72 => ?_)
          · have e_72 : okb (byt N k) = true := by
              rcases Bool.eq_false_or_eq_true (okb (byt N k)) with z | z
              · exact z
              · exact absurd ((inr_byt N k).mpr z) c_72
            refine lv_iconst (v := 0) hx hb d_M_put_79 (by decide) ?_
            refine lv_istore (lv' := [(4, .int 0), (7, .int 0), (6, .int (nI (byt N k))), (5, .int (nI k)), (3, .int (nI mm)), (0, .ref o), (1, .long (lN N))]) hx hb d_M_put_80 hl (by decide) rfl (fun ls hl => ?_)
            refine lv_iload_n hx hb d_M_put_82 rfl (lv_at hl 4 rfl) ?_
            refine lv_iload hx hb d_M_put_83 (lv_at hl 1 rfl) ?_
            refine lv_if_eq (tgt := 92) hx hb d_M_put_85 (by decide) (fun _ => ?_) (fun q => absurd (by decide) q)
            refine lv_iconst (v := 1) hx hb d_M_put_92 (by decide) ?_
            refine lv_iadd hx hb d_M_put_93 ?_
            refine lv_tope (z := nI (mm + 1)) (nI_add mm 1) ?_
            refine lv_istore_n (lv' := [(3, .int (nI (mm + 1))), (4, .int 0), (7, .int 0), (6, .int (nI (byt N k))), (5, .int (nI k)), (0, .ref o), (1, .long (lN N))]) hx hb d_M_put_94 rfl hl (by decide) rfl (fun ls hl => ?_)
            refine lv_iinc (v := nI (k + 1)) (lv' := [(5, .int (nI (k + 1))), (3, .int (nI (mm + 1))), (4, .int 0), (7, .int 0), (6, .int (nI (byt N k))), (0, .ref o), (1, .long (lN N))]) hx hb d_M_put_95 hl (k := 4) rfl (nI_1 k) (by decide) rfl (fun ls hl => ?_)
            refine lv_goto (tgt := 8) hx hb d_M_put_98 (by decide) ?_
            exact ih (k + 1) (mm + 1) false (by omega) (by omega) (by omega) (by rw [hE]; simp only [mpt, hen, e_55, e_72, Bool.false_eq_true, Bool.not_true, Bool.not_false, Bool.and_true, Bool.and_false, Bool.true_and, Bool.false_and, Bool.or_true, Bool.or_false, Bool.true_or, Bool.false_or, ↓reduceIte]) _ (lv_sub hl [0, 2, 1, 5, 6] rfl)
          · have e_72 : okb (byt N k) = false := (inr_byt N k).mp c_72
            refine lv_iconst (v := 1) hx hb d_M_put_75 (by decide) ?_
            refine lv_goto (tgt := 80) hx hb d_M_put_76 (by decide) ?_
            refine lv_istore (lv' := [(4, .int 1), (7, .int 0), (6, .int (nI (byt N k))), (5, .int (nI k)), (3, .int (nI mm)), (0, .ref o), (1, .long (lN N))]) hx hb d_M_put_80 hl (by decide) rfl (fun ls hl => ?_)
            refine lv_iload_n hx hb d_M_put_82 rfl (lv_at hl 4 rfl) ?_
            refine lv_iload hx hb d_M_put_83 (lv_at hl 1 rfl) ?_
            refine lv_if_eq (tgt := 92) hx hb d_M_put_85 (by decide) (fun _ => ?_) (fun q => absurd (by decide) q)
            refine lv_iconst (v := 1) hx hb d_M_put_92 (by decide) ?_
            refine lv_iadd hx hb d_M_put_93 ?_
            refine lv_tope (z := nI (mm + 1)) (nI_add mm 1) ?_
            refine lv_istore_n (lv' := [(3, .int (nI (mm + 1))), (4, .int 1), (7, .int 0), (6, .int (nI (byt N k))), (5, .int (nI k)), (0, .ref o), (1, .long (lN N))]) hx hb d_M_put_94 rfl hl (by decide) rfl (fun ls hl => ?_)
            refine lv_iinc (v := nI (k + 1)) (lv' := [(5, .int (nI (k + 1))), (3, .int (nI (mm + 1))), (4, .int 1), (7, .int 0), (6, .int (nI (byt N k))), (0, .ref o), (1, .long (lN N))]) hx hb d_M_put_95 hl (k := 4) rfl (nI_1 k) (by decide) rfl (fun ls hl => ?_)
            refine lv_goto (tgt := 8) hx hb d_M_put_98 (by decide) ?_
            exact ih (k + 1) (mm + 1) true (by omega) (by omega) (by omega) (by rw [hE]; simp only [mpt, hen, e_55, e_72, Bool.false_eq_true, Bool.not_true, Bool.not_false, Bool.and_true, Bool.and_false, Bool.true_and, Bool.false_and, Bool.or_true, Bool.or_false, Bool.true_or, Bool.false_or, ↓reduceIte]) _ (lv_sub hl [0, 2, 1, 5, 6] rfl)
      · have e_31 : 0 < k := by
          rcases Nat.eq_zero_or_pos k with z | z
          · exact absurd (by rw [z]; decide) c_31
          · exact z
        refine lv_lload_n hx hb d_M_put_34 rfl (lv_at hl 5 rfl) ?_
        refine lv_bipush (v := 8) hx hb d_M_put_35 (by decide) ?_
        refine lv_iload hx hb d_M_put_37 (lv_at hl 1 rfl) ?_
        refine lv_imul hx hb d_M_put_39 ?_
        refine lv_tope (z := nI (8 * k)) (pk_mul 8 k) ?_
        refine lv_lushr (v := lN (hby N k)) hx hb d_M_put_40 (l_shr hN (by omega)) ?_
        refine lv_lconst (v := 0) hx hb d_M_put_41 (by decide) ?_
        refine W.lcmp hx hb d_M_put_42 ?_
        refine lv_if_ne (tgt := 50) hx hb d_M_put_43 (by decide) (fun c_43 => ?_) (fun c_43 => ?_)
        · have e_43 : ¬ hby N k = 0 := fun z => c_43 ((lg_cmp_eq _ _).mpr ((lN_z (hb_lt hN k)).mpr z))
          have hen : isE N k = false := by unfold isE; simp [e_43]
          refine lv_iconst (v := 0) hx hb d_M_put_50 (by decide) ?_
          refine lv_istore (lv' := [(7, .int 0), (6, .int (nI (byt N k))), (5, .int (nI k)), (4, .int (b2 bad)), (3, .int (nI mm)), (0, .ref o), (1, .long (lN N))]) hx hb d_M_put_51 hl (by decide) rfl (fun ls hl => ?_)
          refine lv_iload hx hb d_M_put_53 (lv_at hl 3 rfl) ?_
          refine lv_if_ne (tgt := 75) hx hb d_M_put_55 (by decide) (fun c_55 => ?_) (fun c_55 => ?_)
          · have e_55 : bad = true := b2_n c_55
            refine lv_iconst (v := 1) hx hb d_M_put_75 (by decide) ?_
            refine lv_goto (tgt := 80) hx hb d_M_put_76 (by decide) ?_
            refine lv_istore (lv' := [(4, .int 1), (7, .int 0), (6, .int (nI (byt N k))), (5, .int (nI k)), (3, .int (nI mm)), (0, .ref o), (1, .long (lN N))]) hx hb d_M_put_80 hl (by decide) rfl (fun ls hl => ?_)
            refine lv_iload_n hx hb d_M_put_82 rfl (lv_at hl 4 rfl) ?_
            refine lv_iload hx hb d_M_put_83 (lv_at hl 1 rfl) ?_
            refine lv_if_eq (tgt := 92) hx hb d_M_put_85 (by decide) (fun _ => ?_) (fun q => absurd (by decide) q)
            refine lv_iconst (v := 1) hx hb d_M_put_92 (by decide) ?_
            refine lv_iadd hx hb d_M_put_93 ?_
            refine lv_tope (z := nI (mm + 1)) (nI_add mm 1) ?_
            refine lv_istore_n (lv' := [(3, .int (nI (mm + 1))), (4, .int 1), (7, .int 0), (6, .int (nI (byt N k))), (5, .int (nI k)), (0, .ref o), (1, .long (lN N))]) hx hb d_M_put_94 rfl hl (by decide) rfl (fun ls hl => ?_)
            refine lv_iinc (v := nI (k + 1)) (lv' := [(5, .int (nI (k + 1))), (3, .int (nI (mm + 1))), (4, .int 1), (7, .int 0), (6, .int (nI (byt N k))), (0, .ref o), (1, .long (lN N))]) hx hb d_M_put_95 hl (k := 4) rfl (nI_1 k) (by decide) rfl (fun ls hl => ?_)
            refine lv_goto (tgt := 8) hx hb d_M_put_98 (by decide) ?_
            exact ih (k + 1) (mm + 1) true (by omega) (by omega) (by omega) (by rw [hE]; simp only [mpt, hen, e_55, Bool.false_eq_true, Bool.not_true, Bool.not_false, Bool.and_true, Bool.and_false, Bool.true_and, Bool.false_and, Bool.or_true, Bool.or_false, Bool.true_or, Bool.false_or, ↓reduceIte]) _ (lv_sub hl [0, 2, 1, 5, 6] rfl)
          · have e_55 : bad = false := b2_z c_55
            refine lv_iload hx hb d_M_put_58 (lv_at hl 0 rfl) ?_
            refine lv_if_ne (tgt := 79) hx hb d_M_put_60 (by decide) (fun q => absurd (by decide) q) (fun _ => ?_)
            refine lv_iload hx hb d_M_put_63 (lv_at hl 1 rfl) ?_
            refine lv_bipush (v := 33) hx hb d_M_put_65 (by decide) ?_
            refine lv_bipush (v := 126) hx hb d_M_put_67 (by decide) ?_
            refine RO.callS S (c_M_in l D ca  (nI (byt N k)) 33 126 ) k_M_26 hK rfl rfl hl.1 ⟨Nat.le_of_ble_eq_true rfl, Nat.le_of_ble_eq_true rfl⟩ ⟨Nat.zero_le _, Nat.zero_le _⟩ (Nat.le_of_ble_eq_true rfl) d_M_put_69 ?_
            refine lv_if_ne (tgt := 79) hx hb d_M_put_72 (by decide) (fun c_72 => ?_) (fun c_72 => ?_)
            · have e_72 : okb (byt N k) = true := by
                rcases Bool.eq_false_or_eq_true (okb (byt N k)) with z | z
                · exact z
                · exact absurd ((inr_byt N k).mpr z) c_72
              refine lv_iconst (v := 0) hx hb d_M_put_79 (by decide) ?_
              refine lv_istore (lv' := [(4, .int 0), (7, .int 0), (6, .int (nI (byt N k))), (5, .int (nI k)), (3, .int (nI mm)), (0, .ref o), (1, .long (lN N))]) hx hb d_M_put_80 hl (by decide) rfl (fun ls hl => ?_)
              refine lv_iload_n hx hb d_M_put_82 rfl (lv_at hl 4 rfl) ?_
              refine lv_iload hx hb d_M_put_83 (lv_at hl 1 rfl) ?_
              refine lv_if_eq (tgt := 92) hx hb d_M_put_85 (by decide) (fun _ => ?_) (fun q => absurd (by decide) q)
              refine lv_iconst (v := 1) hx hb d_M_put_92 (by decide) ?_
              refine lv_iadd hx hb d_M_put_93 ?_
              refine lv_tope (z := nI (mm + 1)) (nI_add mm 1) ?_
              refine lv_istore_n (lv' := [(3, .int (nI (mm + 1))), (4, .int 0), (7, .int 0), (6, .int (nI (byt N k))), (5, .int (nI k)), (0, .ref o), (1, .long (lN N))]) hx hb d_M_put_94 rfl hl (by decide) rfl (fun ls hl => ?_)
              refine lv_iinc (v := nI (k + 1)) (lv' := [(5, .int (nI (k + 1))), (3, .int (nI (mm + 1))), (4, .int 0), (7, .int 0), (6, .int (nI (byt N k))), (0, .ref o), (1, .long (lN N))]) hx hb d_M_put_95 hl (k := 4) rfl (nI_1 k) (by decide) rfl (fun ls hl => ?_)
              refine lv_goto (tgt := 8) hx hb d_M_put_98 (by decide) ?_
              exact ih (k + 1) (mm + 1) false (by omega) (by omega) (by omega) (by rw [hE]; simp only [mpt, hen, e_55, e_72, Bool.false_eq_true, Bool.not_true, Bool.not_false, Bool.and_true, Bool.and_false, Bool.true_and, Bool.false_and, Bool.or_true, Bool.or_false, Bool.true_or, Bool.false_or, ↓reduceIte]) _ (lv_sub hl [0, 2, 1, 5, 6] rfl)
            · have e_72 : okb (byt N k) = false := (inr_byt N k).mp c_72
              refine lv_iconst (v := 1) hx hb d_M_put_75 (by decide) ?_
              refine lv_goto (tgt := 80) hx hb d_M_put_76 (by decide) ?_
              refine lv_istore (lv' := [(4, .int 1), (7, .int 0), (6, .int (nI (byt N k))), (5, .int (nI k)), (3, .int (nI mm)), (0, .ref o), (1, .long (lN N))]) hx hb d_M_put_80 hl (by decide) rfl (fun ls hl => ?_)
              refine lv_iload_n hx hb d_M_put_82 rfl (lv_at hl 4 rfl) ?_
              refine lv_iload hx hb d_M_put_83 (lv_at hl 1 rfl) ?_
              refine lv_if_eq (tgt := 92) hx hb d_M_put_85 (by decide) (fun _ => ?_) (fun q => absurd (by decide) q)
              refine lv_iconst (v := 1) hx hb d_M_put_92 (by decide) ?_
              refine lv_iadd hx hb d_M_put_93 ?_
              refine lv_tope (z := nI (mm + 1)) (nI_add mm 1) ?_
              refine lv_istore_n (lv' := [(3, .int (nI (mm + 1))), (4, .int 1), (7, .int 0), (6, .int (nI (byt N k))), (5, .int (nI k)), (0, .ref o), (1, .long (lN N))]) hx hb d_M_put_94 rfl hl (by decide) rfl (fun ls hl => ?_)
              refine lv_iinc (v := nI (k + 1)) (lv' := [(5, .int (nI (k + 1))), (3, .int (nI (mm + 1))), (4, .int 1), (7, .int 0), (6, .int (nI (byt N k))), (0, .ref o), (1, .long (lN N))]) hx hb d_M_put_95 hl (k := 4) rfl (nI_1 k) (by decide) rfl (fun ls hl => ?_)
              refine lv_goto (tgt := 8) hx hb d_M_put_98 (by decide) ?_
              exact ih (k + 1) (mm + 1) true (by omega) (by omega) (by omega) (by rw [hE]; simp only [mpt, hen, e_55, e_72, Bool.false_eq_true, Bool.not_true, Bool.not_false, Bool.and_true, Bool.and_false, Bool.true_and, Bool.false_and, Bool.or_true, Bool.or_false, Bool.true_or, Bool.false_or, ↓reduceIte]) _ (lv_sub hl [0, 2, 1, 5, 6] rfl)
        · have e_43 : hby N k = 0 := (lN_z (hb_lt hN k)).mp ((lg_cmp_eq _ _).mp c_43)
          have hen : isE N k = true := by unfold isE; simp [e_43, e_31]
          refine lv_iconst (v := 1) hx hb d_M_put_46 (by decide) ?_
          refine lv_goto (tgt := 51) hx hb d_M_put_47 (by decide) ?_
          refine lv_istore (lv' := [(7, .int 1), (6, .int (nI (byt N k))), (5, .int (nI k)), (4, .int (b2 bad)), (3, .int (nI mm)), (0, .ref o), (1, .long (lN N))]) hx hb d_M_put_51 hl (by decide) rfl (fun ls hl => ?_)
          refine lv_iload hx hb d_M_put_53 (lv_at hl 3 rfl) ?_
          refine lv_if_ne (tgt := 75) hx hb d_M_put_55 (by decide) (fun c_55 => ?_) (fun c_55 => ?_)
          · have e_55 : bad = true := b2_n c_55
            refine lv_iconst (v := 1) hx hb d_M_put_75 (by decide) ?_
            refine lv_goto (tgt := 80) hx hb d_M_put_76 (by decide) ?_
            refine lv_istore (lv' := [(4, .int 1), (7, .int 1), (6, .int (nI (byt N k))), (5, .int (nI k)), (3, .int (nI mm)), (0, .ref o), (1, .long (lN N))]) hx hb d_M_put_80 hl (by decide) rfl (fun ls hl => ?_)
            refine lv_iload_n hx hb d_M_put_82 rfl (lv_at hl 4 rfl) ?_
            refine lv_iload hx hb d_M_put_83 (lv_at hl 1 rfl) ?_
            refine lv_if_eq (tgt := 92) hx hb d_M_put_85 (by decide) (fun q => absurd q (by decide)) (fun _ => ?_)
            refine lv_iconst (v := 0) hx hb d_M_put_88 (by decide) ?_
            refine lv_goto (tgt := 93) hx hb d_M_put_89 (by decide) ?_
            refine lv_iadd hx hb d_M_put_93 ?_
            refine lv_tope (z := nI (mm + 0)) (nI_add mm 0) ?_
            refine lv_istore_n (lv' := [(3, .int (nI (mm + 0))), (4, .int 1), (7, .int 1), (6, .int (nI (byt N k))), (5, .int (nI k)), (0, .ref o), (1, .long (lN N))]) hx hb d_M_put_94 rfl hl (by decide) rfl (fun ls hl => ?_)
            refine lv_iinc (v := nI (k + 1)) (lv' := [(5, .int (nI (k + 1))), (3, .int (nI (mm + 0))), (4, .int 1), (7, .int 1), (6, .int (nI (byt N k))), (0, .ref o), (1, .long (lN N))]) hx hb d_M_put_95 hl (k := 4) rfl (nI_1 k) (by decide) rfl (fun ls hl => ?_)
            refine lv_goto (tgt := 8) hx hb d_M_put_98 (by decide) ?_
            exact ih (k + 1) (mm + 0) true (by omega) (by omega) (by omega) (by rw [hE]; simp only [mpt, hen, e_55, Bool.false_eq_true, Bool.not_true, Bool.not_false, Bool.and_true, Bool.and_false, Bool.true_and, Bool.false_and, Bool.or_true, Bool.or_false, Bool.true_or, Bool.false_or, ↓reduceIte]) _ (lv_sub hl [0, 2, 1, 5, 6] rfl)
          · have e_55 : bad = false := b2_z c_55
            refine lv_iload hx hb d_M_put_58 (lv_at hl 0 rfl) ?_
            refine lv_if_ne (tgt := 79) hx hb d_M_put_60 (by decide) (fun _ => ?_) (fun q => absurd q (by decide))
            refine lv_iconst (v := 0) hx hb d_M_put_79 (by decide) ?_
            refine lv_istore (lv' := [(4, .int 0), (7, .int 1), (6, .int (nI (byt N k))), (5, .int (nI k)), (3, .int (nI mm)), (0, .ref o), (1, .long (lN N))]) hx hb d_M_put_80 hl (by decide) rfl (fun ls hl => ?_)
            refine lv_iload_n hx hb d_M_put_82 rfl (lv_at hl 4 rfl) ?_
            refine lv_iload hx hb d_M_put_83 (lv_at hl 1 rfl) ?_
            refine lv_if_eq (tgt := 92) hx hb d_M_put_85 (by decide) (fun q => absurd q (by decide)) (fun _ => ?_)
            refine lv_iconst (v := 0) hx hb d_M_put_88 (by decide) ?_
            refine lv_goto (tgt := 93) hx hb d_M_put_89 (by decide) ?_
            refine lv_iadd hx hb d_M_put_93 ?_
            refine lv_tope (z := nI (mm + 0)) (nI_add mm 0) ?_
            refine lv_istore_n (lv' := [(3, .int (nI (mm + 0))), (4, .int 0), (7, .int 1), (6, .int (nI (byt N k))), (5, .int (nI k)), (0, .ref o), (1, .long (lN N))]) hx hb d_M_put_94 rfl hl (by decide) rfl (fun ls hl => ?_)
            refine lv_iinc (v := nI (k + 1)) (lv' := [(5, .int (nI (k + 1))), (3, .int (nI (mm + 0))), (4, .int 0), (7, .int 1), (6, .int (nI (byt N k))), (0, .ref o), (1, .long (lN N))]) hx hb d_M_put_95 hl (k := 4) rfl (nI_1 k) (by decide) rfl (fun ls hl => ?_)
            refine lv_goto (tgt := 8) hx hb d_M_put_98 (by decide) ?_
            exact ih (k + 1) (mm + 0) false (by omega) (by omega) (by omega) (by rw [hE]; simp only [mpt, hen, e_55, Bool.false_eq_true, Bool.not_true, Bool.not_false, Bool.and_true, Bool.and_false, Bool.true_and, Bool.false_and, Bool.or_true, Bool.or_false, Bool.true_or, Bool.false_or, ↓reduceIte]) _ (lv_sub hl [0, 2, 1, 5, 6] rfl)
