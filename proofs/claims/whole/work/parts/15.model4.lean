/-! Carrying a text out, by the model -/
def mdo (g : Nat → Int32) (le one two three : Int32) : Bool × (Nat → Int32) :=
  if le = 119 then (if m_wf g one two three = 0 then (true, m_wr g one.toNatClampNeg (bn g one.toNatClampNeg) two three) else (false, g))
  else if le = 114 then (if m_rf g one two three = 0 then (true, (m_rv g one.toNatClampNeg two.toNatClampNeg three.toNatClampNeg).2) else (false, g))
  else if le = 99 then (if m_cf g one two = 0 then (true, upd g (8 + one.toNatClampNeg) two) else (false, g))
  else if le = 109 then (if two ≤ g 0 then (true, tvm g two) else (false, g))
  else (true, (m_rew g).2)
def mg (P : Nat → Int32) (n : Nat) : Nat → Nat → (Nat × Bool) × Int32 × Int32 × Int32 × Int32
  | 0, p => ((p, true), 0, 0, 0, 0)
  | r + 1, p =>
    if (mo P n p).1.2 = true then ((mo P n p).1, chr P n p, (mo P n p).2.1, (mo P n p).2.2.1, (mo P n p).2.2.2)
    else if (mo P n p).1.1 < n then
      (if (sg P n 59 59 (mo P n p).1).2 = true then (sg P n 59 59 (mo P n p).1, chr P n p, (mo P n p).2.1, (mo P n p).2.2.1, (mo P n p).2.2.2)
       else mg P n r (sg P n 59 59 (mo P n p).1).1)
    else ((mo P n p).1, chr P n p, (mo P n p).2.1, (mo P n p).2.2.1, (mo P n p).2.2.2)
def md (P : Nat → Int32) (n p : Nat) (g : Nat → Int32) : Bool × (Nat → Int32) := mdo g (chr P n p) (mo P n p).2.1 (mo P n p).2.2.1 (mo P n p).2.2.2
def mh (P : Nat → Int32) (n : Nat) : Nat → Nat → Nat → (Nat → Int32) → (Nat × (Nat → Int32)) × (Nat × Bool) × Int32 × Int32 × Int32 × Int32
  | 0, p, k, g => ((k, g), (p, true), 0, 0, 0, 0)
  | r + 1, p, k, g =>
    if (md P n p g).1 = true then
      (if (mo P n p).1.2 = true then ((k + 1, (md P n p g).2), (mo P n p).1, chr P n p, (mo P n p).2.1, (mo P n p).2.2.1, (mo P n p).2.2.2)
       else if (mo P n p).1.1 < n then
         (if (sg P n 59 59 (mo P n p).1).2 = true then ((k + 1, (md P n p g).2), sg P n 59 59 (mo P n p).1, chr P n p, (mo P n p).2.1, (mo P n p).2.2.1, (mo P n p).2.2.2)
          else mh P n r (sg P n 59 59 (mo P n p).1).1 (k + 1) (md P n p g).2)
       else ((k + 1, (md P n p g).2), (mo P n p).1, chr P n p, (mo P n p).2.1, (mo P n p).2.2.1, (mo P n p).2.2.2))
    else ((k, (md P n p g).2), (mo P n p).1, chr P n p, (mo P n p).2.1, (mo P n p).2.2.1, (mo P n p).2.2.2)
theorem BN_rv {g : Nat → Int32} {f b w : Nat} (h : BN g) : BN (m_rv g f b w).2 := BN_up (by omega) (BN_up (by omega) (BN_tvm (BN_tvm h)))
theorem BN_rew {g : Nat → Int32} (h : BN g) : BN (m_rew g).2 := by
  unfold m_rew
  split
  · exact BN_tvm h
  · exact BN_tvm h
theorem BN_wr {g : Nat → Int32} {f : Nat} {d u : Int32} (hf : f < 2) (h : BN g) (hlt : bn g f < 20) : BN (m_wr g f (bn g f) d u) := by
  unfold m_wr
  exact BN_tvm (BN_set hf (by omega) (BN_up (by omega) (BN_up (by omega) (BN_up (by omega) (BN_up (by omega) (BN_tvm h))))))
theorem cut_n {g : Nat → Int32} {x y : Int32} (hB : BN g) (h : m_cf g x y = 0) : ∃ f n, f < 2 ∧ x = nI f ∧ n ≤ bn g f ∧ n ≤ 20 ∧ y = nI n := by
  unfold m_cf at h
  split at h
  · exact absurd h (by decide)
  · rename_i h1
    obtain ⟨f, hf, rfl⟩ := isf_of h1
    rw [nI_clamp (by omega)] at h
    have hn := (hB f hf).2
    split at h
    · rename_i h2
      split at h
      · rename_i h3
        obtain ⟨n, hn2, rfl⟩ := nI_of (Int32.not_lt.mpr h2)
        have h4 := le_of_nI (by omega) hn2 h3
        exact ⟨f, n, hf, rfl, h4, by omega, rfl⟩
      · exact absurd h (by decide)
    · exact absurd h (by decide)
theorem BN_mdo {g : Nat → Int32} {le one two three : Int32} (hB : BN g) : BN (mdo g le one two three).2 := by
  unfold mdo
  split
  · split
    · rename_i h
      obtain ⟨f, hf, rfl, hlt⟩ := mwf_of (g := g) (x := one) (d := two) (u := three) hB (by rw [h]; decide)
      rw [nI_clamp (by omega)]
      exact BN_wr hf hB hlt
    · exact hB
  · split
    · split
      · exact BN_rv hB
      · exact hB
    · split
      · split
        · rename_i h
          obtain ⟨f, n, hf, rfl, h1, h2, rfl⟩ := cut_n hB h
          rw [nI_clamp (by omega)]
          exact BN_set hf h2 hB
        · exact hB
      · split
        · split
          · exact BN_tvm hB
          · exact hB
        · exact BN_rew hB
theorem BN_md {P : Nat → Int32} {n p : Nat} {g : Nat → Int32} (hB : BN g) : BN (md P n p g).2 := BN_mdo hB
/-- the state of the model's reader behind carryOut -/
def mz (P : Nat → Int32) (n : Nat) (g : Nat → Int32) : (Nat × Bool) × Int32 × Int32 × Int32 × Int32 := if (mg P n (n + 1) 0).1.2 = true then mg P n (n + 1) 0 else (mh P n (n + 1) 0 0 g).2
set_option maxHeartbeats 4000000 in
set_option maxRecDepth 100000 in
theorem c_M_does (l : Launch) (D : va_G) (ca : Nat → ClassId) (o sa ba sl sv pd : Nat) (g : Nat → Int32) (kn pl q : Nat) (wb : Bool) (le one two three : Int32) (hB : BN g) : MI l y_M_does b_M_does 4 (some .boolean) 7 160 D ca [.ref o] [(o, .inr (4, [.ref sa, .ref ba, .int (nI kn), .ref sl, .ref sv, .ref pd, .int (nI pl), .int (nI q), .int (b2 wb), .int le, .int one, .int two, .int three])), (sa, .inl (ca 0, 170, .inl g))] (b2 (mdo g le one two three).1) [(o, .inr (4, [.ref sa, .ref ba, .int (nI kn), .ref sl, .ref sv, .ref pd, .int (nI pl), .int (nI q), .int (b2 wb), .int le, .int one, .int two, .int three])), (sa, .inl (ca 0, 170, .inl ((mdo g le one two three).2)))] := by
  refine MI.mk (ty := .boolean) rfl rfl (Nat.le_of_ble_eq_true rfl) ?_
  intro p e s m args below meth c Q A S hA hP hD hK
  obtain ⟨hx, hb, hml, hown, hts⟩ := id S
  intro hret ls hl0 hS
  have hl : lv_has ls 4 [(0, .ref o)] := hl0
  rcases chr_cases le with hc | hc | hc | hc | hc | ⟨h119, h114, h99, h109, h120⟩
  · subst hc
    refine lv_aload_n hx hb d_M_does_0 rfl (lv_at hl 0 rfl) ?_
    refine f_get S cls_M hK hP 0 rfl 9 (by decide) fl_M_letter rfl rfl d_M_does_1 ?_
    refine lv_istore_n (lv' := [(1, .int 119), (0, .ref o)]) hx hb d_M_does_4 rfl hl (by decide) rfl (fun ls hl => ?_)
    refine lv_iload_n hx hb d_M_does_5 rfl (lv_at hl 0 rfl) ?_
    refine lv_bipush (v := 119) hx hb d_M_does_6 (by decide) ?_
    refine lv_icmp_ne (tgt := 30) hx hb d_M_does_8 (by decide) (fun q => absurd (by decide) q) (fun _ => ?_)
    refine lv_aload_n hx hb d_M_does_11 rfl (lv_at hl 1 rfl) ?_
    refine lv_aload_n hx hb d_M_does_12 rfl (lv_at hl 1 rfl) ?_
    refine f_get S cls_M hK hP 0 rfl 10 (by decide) fl_M_one rfl rfl d_M_does_13 ?_
    refine lv_aload_n hx hb d_M_does_16 rfl (lv_at hl 1 rfl) ?_
    refine f_get S cls_M hK hP 0 rfl 11 (by decide) fl_M_two rfl rfl d_M_does_17 ?_
    refine lv_aload_n hx hb d_M_does_20 rfl (lv_at hl 1 rfl) ?_
    refine f_get S cls_M hK hP 0 rfl 12 (by decide) fl_M_three rfl rfl d_M_does_21 ?_
    refine RO.callV S (c_M_writeFault l D ca o sa [.ref ba, .int (nI kn), .ref sl, .ref sv, .ref pd, .int (nI pl), .int (nI q), .int (b2 wb), .int 119, .int one, .int two, .int three] g one two three hB) k_M_85 hP hK [0, 1] rfl 0 (ci := 4) (fs := [.ref sa, .ref ba, .int (nI kn), .ref sl, .ref sv, .ref pd, .int (nI pl), .int (nI q), .int (b2 wb), .int 119, .int one, .int two, .int three]) rfl rfl rfl rfl hl.1 ⟨Nat.le_of_ble_eq_true rfl, Nat.le_of_ble_eq_true rfl⟩ ⟨Nat.zero_le _, Nat.zero_le _⟩ (Nat.le_of_ble_eq_true rfl) d_M_does_24 ?_
    refine lv_goto (tgt := 101) hx hb d_M_does_27 (by decide) ?_
    refine lv_istore_n (lv' := [(2, .int (m_wf g one two three)), (1, .int 119), (0, .ref o)]) hx hb d_M_does_101 rfl hl (by decide) rfl (fun ls hl => ?_)
    refine lv_iload_n hx hb d_M_does_102 rfl (lv_at hl 0 rfl) ?_
    refine lv_if_ne (tgt := 199) hx hb d_M_does_103 (by decide) (fun c_103 => ?_) (fun c_103 => ?_)
    · have n_103 := c_103
      refine lv_iload_n hx hb d_M_does_199 rfl (lv_at hl 0 rfl) ?_
      refine lv_if_ne (tgt := 207) hx hb d_M_does_200 (by decide) (fun _ => ?_) (fun q => absurd q (n_103))
      refine lv_iconst (v := 0) hx hb d_M_does_207 (by decide) ?_
      exact hret _ _ _ _ _ _ d_M_does_208 rfl (by first | (simp only [mdo, Bool.false_eq_true, n_103, ↓reduceIte]; done) | (simp only [mdo, Bool.false_eq_true, n_103, ↓reduceIte]; rfl) | rfl) (by first | (simp only [mdo, Bool.false_eq_true, n_103, ↓reduceIte]; done) | (simp only [mdo, Bool.false_eq_true, n_103, ↓reduceIte]; rfl) | rfl) hP hD hS
    · have z_103 := c_103
      obtain ⟨f, hf, rfl, hlt⟩ := mwf_of hB (by rw [c_103]; decide)
      have hcl : (nI f).toNatClampNeg = f := nI_clamp (by omega)
      refine lv_iload_n hx hb d_M_does_106 rfl (lv_at hl 1 rfl) ?_
      refine lv_bipush (v := 119) hx hb d_M_does_107 (by decide) ?_
      refine lv_icmp_ne (tgt := 131) hx hb d_M_does_109 (by decide) (fun q => absurd (by decide) q) (fun _ => ?_)
      refine lv_aload_n hx hb d_M_does_112 rfl (lv_at hl 2 rfl) ?_
      refine lv_aload_n hx hb d_M_does_113 rfl (lv_at hl 2 rfl) ?_
      refine f_get S cls_M hK hP 0 rfl 10 (by decide) fl_M_one rfl rfl d_M_does_114 ?_
      refine lv_aload_n hx hb d_M_does_117 rfl (lv_at hl 2 rfl) ?_
      refine f_get S cls_M hK hP 0 rfl 11 (by decide) fl_M_two rfl rfl d_M_does_118 ?_
      refine lv_aload_n hx hb d_M_does_121 rfl (lv_at hl 2 rfl) ?_
      refine f_get S cls_M hK hP 0 rfl 12 (by decide) fl_M_three rfl rfl d_M_does_122 ?_
      refine MI.callV (wr := []) S (c_M_writes l D ca o sa [.ref ba, .int (nI kn), .ref sl, .ref sv, .ref pd, .int (nI pl), .int (nI q), .int (b2 wb), .int 119, .int (nI f), .int two, .int three] g f two three hB (by omega) (by omega)) k_M_88 hP hD hS hA hK [0, 1] [] rfl rfl (by decide) (by decide) (by decide) 0 (ci := 4) (fs := [.ref sa, .ref ba, .int (nI kn), .ref sl, .ref sv, .ref pd, .int (nI pl), .int (nI q), .int (b2 wb), .int 119, .int (nI f), .int two, .int three]) rfl rfl rfl rfl hl.1 ⟨Nat.le_of_ble_eq_true rfl, Nat.le_of_ble_eq_true rfl⟩ ⟨Nat.zero_le _, Nat.zero_le _⟩ (Nat.le_of_ble_eq_true rfl) d_M_does_125 (fun H locs hP hD hS => ?_)
      obtain ⟨g1, hg1⟩ : ∃ z : Nat → Int32, z = m_wr g f (bn g f) two three := ⟨_, rfl⟩
      rw [← hg1] at hP hD
      have hP : va_P D classes [(o, .inr (4, [.ref sa, .ref ba, .int (nI kn), .ref sl, .ref sv, .ref pd, .int (nI pl), .int (nI q), .int (b2 wb), .int 119, .int (nI f), .int two, .int three])), (sa, .inl (ca 0, 170, .inl g1))] H := hP
      have hD : va_D A [(o, .inr (4, [.ref sa, .ref ba, .int (nI kn), .ref sl, .ref sv, .ref pd, .int (nI pl), .int (nI q), .int (b2 wb), .int 119, .int (nI f), .int two, .int three])), (sa, .inl (ca 0, 170, .inl g1))] := hD
      refine lv_goto (tgt := 198) hx hb d_M_does_128 (by decide) ?_
      refine lv_istore_n (lv' := [(3, .int (nI (bn g f))), (2, .int (m_wf g (nI f) two three)), (1, .int 119), (0, .ref o)]) hx hb d_M_does_198 rfl hl (by decide) rfl (fun ls hl => ?_)
      refine lv_iload_n hx hb d_M_does_199 rfl (lv_at hl 1 rfl) ?_
      refine lv_if_ne (tgt := 207) hx hb d_M_does_200 (by decide) (fun q => absurd (z_103) q) (fun _ => ?_)
      refine lv_iconst (v := 1) hx hb d_M_does_203 (by decide) ?_
      refine lv_goto (tgt := 208) hx hb d_M_does_204 (by decide) ?_
      exact hret _ _ _ _ _ _ d_M_does_208 rfl (by subst hg1; first | (simp only [mdo, Bool.false_eq_true, z_103, hcl, ↓reduceIte]; done) | (simp only [mdo, Bool.false_eq_true, z_103, hcl, ↓reduceIte]; rfl) | rfl) (by subst hg1; first | (simp only [mdo, Bool.false_eq_true, z_103, hcl, ↓reduceIte]; done) | (simp only [mdo, Bool.false_eq_true, z_103, hcl, ↓reduceIte]; rfl) | rfl) hP hD hS
  · subst hc
    refine lv_aload_n hx hb d_M_does_0 rfl (lv_at hl 0 rfl) ?_
    refine f_get S cls_M hK hP 0 rfl 9 (by decide) fl_M_letter rfl rfl d_M_does_1 ?_
    refine lv_istore_n (lv' := [(1, .int 114), (0, .ref o)]) hx hb d_M_does_4 rfl hl (by decide) rfl (fun ls hl => ?_)
    refine lv_iload_n hx hb d_M_does_5 rfl (lv_at hl 0 rfl) ?_
    refine lv_bipush (v := 119) hx hb d_M_does_6 (by decide) ?_
    refine lv_icmp_ne (tgt := 30) hx hb d_M_does_8 (by decide) (fun _ => ?_) (fun q => absurd q (by decide))
    refine lv_iload_n hx hb d_M_does_30 rfl (lv_at hl 0 rfl) ?_
    refine lv_bipush (v := 114) hx hb d_M_does_31 (by decide) ?_
    refine lv_icmp_ne (tgt := 55) hx hb d_M_does_33 (by decide) (fun q => absurd (by decide) q) (fun _ => ?_)
    refine lv_aload_n hx hb d_M_does_36 rfl (lv_at hl 1 rfl) ?_
    refine lv_aload_n hx hb d_M_does_37 rfl (lv_at hl 1 rfl) ?_
    refine f_get S cls_M hK hP 0 rfl 10 (by decide) fl_M_one rfl rfl d_M_does_38 ?_
    refine lv_aload_n hx hb d_M_does_41 rfl (lv_at hl 1 rfl) ?_
    refine f_get S cls_M hK hP 0 rfl 11 (by decide) fl_M_two rfl rfl d_M_does_42 ?_
    refine lv_aload_n hx hb d_M_does_45 rfl (lv_at hl 1 rfl) ?_
    refine f_get S cls_M hK hP 0 rfl 12 (by decide) fl_M_three rfl rfl d_M_does_46 ?_
    refine RO.callV S (c_M_readFault l D ca o sa [.ref ba, .int (nI kn), .ref sl, .ref sv, .ref pd, .int (nI pl), .int (nI q), .int (b2 wb), .int 114, .int one, .int two, .int three] g one two three hB) k_M_103 hP hK [0, 1] rfl 0 (ci := 4) (fs := [.ref sa, .ref ba, .int (nI kn), .ref sl, .ref sv, .ref pd, .int (nI pl), .int (nI q), .int (b2 wb), .int 114, .int one, .int two, .int three]) rfl rfl rfl rfl hl.1 ⟨Nat.le_of_ble_eq_true rfl, Nat.le_of_ble_eq_true rfl⟩ ⟨Nat.zero_le _, Nat.zero_le _⟩ (Nat.le_of_ble_eq_true rfl) d_M_does_49 ?_
    refine lv_goto (tgt := 101) hx hb d_M_does_52 (by decide) ?_
    refine lv_istore_n (lv' := [(2, .int (m_rf g one two three)), (1, .int 114), (0, .ref o)]) hx hb d_M_does_101 rfl hl (by decide) rfl (fun ls hl => ?_)
    refine lv_iload_n hx hb d_M_does_102 rfl (lv_at hl 0 rfl) ?_
    refine lv_if_ne (tgt := 199) hx hb d_M_does_103 (by decide) (fun c_103 => ?_) (fun c_103 => ?_)
    · have n_103 := c_103
      refine lv_iload_n hx hb d_M_does_199 rfl (lv_at hl 0 rfl) ?_
      refine lv_if_ne (tgt := 207) hx hb d_M_does_200 (by decide) (fun _ => ?_) (fun q => absurd q (n_103))
      refine lv_iconst (v := 0) hx hb d_M_does_207 (by decide) ?_
      exact hret _ _ _ _ _ _ d_M_does_208 rfl (by first | (simp only [mdo, Bool.false_eq_true, n_103, ↓reduceIte]; done) | (simp only [mdo, Bool.false_eq_true, n_103, ↓reduceIte]; rfl) | rfl) (by first | (simp only [mdo, Bool.false_eq_true, n_103, ↓reduceIte]; done) | (simp only [mdo, Bool.false_eq_true, n_103, ↓reduceIte]; rfl) | rfl) hP hD hS
    · have z_103 := c_103
      obtain ⟨f, b, w_, hf, hbn, hw, rfl, rfl, rfl⟩ := mrf_of hB (by rw [c_103]; decide)
      have hn20 := (hB f hf).2
      have hcl : (nI f).toNatClampNeg = f := nI_clamp (by omega)
      have hcb : (nI b).toNatClampNeg = b := nI_clamp (by omega)
      have hcw : (nI w_).toNatClampNeg = w_ := nI_clamp (by omega)
      refine lv_iload_n hx hb d_M_does_106 rfl (lv_at hl 1 rfl) ?_
      refine lv_bipush (v := 119) hx hb d_M_does_107 (by decide) ?_
      refine lv_icmp_ne (tgt := 131) hx hb d_M_does_109 (by decide) (fun _ => ?_) (fun q => absurd q (by decide))
      refine lv_iload_n hx hb d_M_does_131 rfl (lv_at hl 1 rfl) ?_
      refine lv_bipush (v := 114) hx hb d_M_does_132 (by decide) ?_
      refine lv_icmp_ne (tgt := 156) hx hb d_M_does_134 (by decide) (fun q => absurd (by decide) q) (fun _ => ?_)
      refine lv_aload_n hx hb d_M_does_137 rfl (lv_at hl 2 rfl) ?_
      refine lv_aload_n hx hb d_M_does_138 rfl (lv_at hl 2 rfl) ?_
      refine f_get S cls_M hK hP 0 rfl 10 (by decide) fl_M_one rfl rfl d_M_does_139 ?_
      refine lv_aload_n hx hb d_M_does_142 rfl (lv_at hl 2 rfl) ?_
      refine f_get S cls_M hK hP 0 rfl 11 (by decide) fl_M_two rfl rfl d_M_does_143 ?_
      refine lv_aload_n hx hb d_M_does_146 rfl (lv_at hl 2 rfl) ?_
      refine f_get S cls_M hK hP 0 rfl 12 (by decide) fl_M_three rfl rfl d_M_does_147 ?_
      refine MI.callV (wr := []) S (c_M_reads l D ca o sa [.ref ba, .int (nI kn), .ref sl, .ref sv, .ref pd, .int (nI pl), .int (nI q), .int (b2 wb), .int 114, .int (nI f), .int (nI b), .int (nI w_)] g f b w_ (by omega) (by omega) (by omega)) k_M_106 hP hD hS hA hK [0, 1] [] rfl rfl (by decide) (by decide) (by decide) 0 (ci := 4) (fs := [.ref sa, .ref ba, .int (nI kn), .ref sl, .ref sv, .ref pd, .int (nI pl), .int (nI q), .int (b2 wb), .int 114, .int (nI f), .int (nI b), .int (nI w_)]) rfl rfl rfl rfl hl.1 ⟨Nat.le_of_ble_eq_true rfl, Nat.le_of_ble_eq_true rfl⟩ ⟨Nat.zero_le _, Nat.zero_le _⟩ (Nat.le_of_ble_eq_true rfl) d_M_does_150 (fun H locs hP hD hS => ?_)
      obtain ⟨g2, hg2⟩ : ∃ z : Nat → Int32, z = (m_rv g f b w_).2 := ⟨_, rfl⟩
      rw [← hg2] at hP hD
      have hP : va_P D classes [(o, .inr (4, [.ref sa, .ref ba, .int (nI kn), .ref sl, .ref sv, .ref pd, .int (nI pl), .int (nI q), .int (b2 wb), .int 114, .int (nI f), .int (nI b), .int (nI w_)])), (sa, .inl (ca 0, 170, .inl g2))] H := hP
      have hD : va_D A [(o, .inr (4, [.ref sa, .ref ba, .int (nI kn), .ref sl, .ref sv, .ref pd, .int (nI pl), .int (nI q), .int (b2 wb), .int 114, .int (nI f), .int (nI b), .int (nI w_)])), (sa, .inl (ca 0, 170, .inl g2))] := hD
      refine lv_goto (tgt := 198) hx hb d_M_does_153 (by decide) ?_
      refine lv_istore_n (lv' := [(3, .int ((m_rv g f b w_).1)), (2, .int (m_rf g (nI f) (nI b) (nI w_))), (1, .int 114), (0, .ref o)]) hx hb d_M_does_198 rfl hl (by decide) rfl (fun ls hl => ?_)
      refine lv_iload_n hx hb d_M_does_199 rfl (lv_at hl 1 rfl) ?_
      refine lv_if_ne (tgt := 207) hx hb d_M_does_200 (by decide) (fun q => absurd (z_103) q) (fun _ => ?_)
      refine lv_iconst (v := 1) hx hb d_M_does_203 (by decide) ?_
      refine lv_goto (tgt := 208) hx hb d_M_does_204 (by decide) ?_
      exact hret _ _ _ _ _ _ d_M_does_208 rfl (by subst hg2; first | (simp only [mdo, Bool.false_eq_true, z_103, hcl, hcb, hcw, ↓reduceIte]; done) | (simp only [mdo, Bool.false_eq_true, z_103, hcl, hcb, hcw, ↓reduceIte]; rfl) | rfl) (by subst hg2; first | (simp only [mdo, Bool.false_eq_true, z_103, hcl, hcb, hcw, ↓reduceIte]; done) | (simp only [mdo, Bool.false_eq_true, z_103, hcl, hcb, hcw, ↓reduceIte]; rfl) | rfl) hP hD hS
  · subst hc
    refine lv_aload_n hx hb d_M_does_0 rfl (lv_at hl 0 rfl) ?_
    refine f_get S cls_M hK hP 0 rfl 9 (by decide) fl_M_letter rfl rfl d_M_does_1 ?_
    refine lv_istore_n (lv' := [(1, .int 99), (0, .ref o)]) hx hb d_M_does_4 rfl hl (by decide) rfl (fun ls hl => ?_)
    refine lv_iload_n hx hb d_M_does_5 rfl (lv_at hl 0 rfl) ?_
    refine lv_bipush (v := 119) hx hb d_M_does_6 (by decide) ?_
    refine lv_icmp_ne (tgt := 30) hx hb d_M_does_8 (by decide) (fun _ => ?_) (fun q => absurd q (by decide))
    refine lv_iload_n hx hb d_M_does_30 rfl (lv_at hl 0 rfl) ?_
    refine lv_bipush (v := 114) hx hb d_M_does_31 (by decide) ?_
    refine lv_icmp_ne (tgt := 55) hx hb d_M_does_33 (by decide) (fun _ => ?_) (fun q => absurd q (by decide))
    refine lv_iload_n hx hb d_M_does_55 rfl (lv_at hl 0 rfl) ?_
    refine lv_bipush (v := 99) hx hb d_M_does_56 (by decide) ?_
    refine lv_icmp_ne (tgt := 76) hx hb d_M_does_58 (by decide) (fun q => absurd (by decide) q) (fun _ => ?_)
    refine lv_aload_n hx hb d_M_does_61 rfl (lv_at hl 1 rfl) ?_
    refine lv_aload_n hx hb d_M_does_62 rfl (lv_at hl 1 rfl) ?_
    refine f_get S cls_M hK hP 0 rfl 10 (by decide) fl_M_one rfl rfl d_M_does_63 ?_
    refine lv_aload_n hx hb d_M_does_66 rfl (lv_at hl 1 rfl) ?_
    refine f_get S cls_M hK hP 0 rfl 11 (by decide) fl_M_two rfl rfl d_M_does_67 ?_
    refine RO.callV S (c_M_cutFault l D ca o sa [.ref ba, .int (nI kn), .ref sl, .ref sv, .ref pd, .int (nI pl), .int (nI q), .int (b2 wb), .int 99, .int one, .int two, .int three] g one two hB) k_M_91 hP hK [0, 1] rfl 0 (ci := 4) (fs := [.ref sa, .ref ba, .int (nI kn), .ref sl, .ref sv, .ref pd, .int (nI pl), .int (nI q), .int (b2 wb), .int 99, .int one, .int two, .int three]) rfl rfl rfl rfl hl.1 ⟨Nat.le_of_ble_eq_true rfl, Nat.le_of_ble_eq_true rfl⟩ ⟨Nat.zero_le _, Nat.zero_le _⟩ (Nat.le_of_ble_eq_true rfl) d_M_does_70 ?_
    refine lv_goto (tgt := 101) hx hb d_M_does_73 (by decide) ?_
    refine lv_istore_n (lv' := [(2, .int (m_cf g one two)), (1, .int 99), (0, .ref o)]) hx hb d_M_does_101 rfl hl (by decide) rfl (fun ls hl => ?_)
    refine lv_iload_n hx hb d_M_does_102 rfl (lv_at hl 0 rfl) ?_
    refine lv_if_ne (tgt := 199) hx hb d_M_does_103 (by decide) (fun c_103 => ?_) (fun c_103 => ?_)
    · have n_103 := c_103
      refine lv_iload_n hx hb d_M_does_199 rfl (lv_at hl 0 rfl) ?_
      refine lv_if_ne (tgt := 207) hx hb d_M_does_200 (by decide) (fun _ => ?_) (fun q => absurd q (n_103))
      refine lv_iconst (v := 0) hx hb d_M_does_207 (by decide) ?_
      exact hret _ _ _ _ _ _ d_M_does_208 rfl (by first | (simp only [mdo, Bool.false_eq_true, n_103, ↓reduceIte]; done) | (simp only [mdo, Bool.false_eq_true, n_103, ↓reduceIte]; rfl) | rfl) (by first | (simp only [mdo, Bool.false_eq_true, n_103, ↓reduceIte]; done) | (simp only [mdo, Bool.false_eq_true, n_103, ↓reduceIte]; rfl) | rfl) hP hD hS
    · have z_103 := c_103
      obtain ⟨f, hf, rfl⟩ := mcf_of (g := g) (x := one) (y := two) (by rw [c_103]; decide)
      have hcl : (nI f).toNatClampNeg = f := nI_clamp (by omega)
      refine lv_iload_n hx hb d_M_does_106 rfl (lv_at hl 1 rfl) ?_
      refine lv_bipush (v := 119) hx hb d_M_does_107 (by decide) ?_
      refine lv_icmp_ne (tgt := 131) hx hb d_M_does_109 (by decide) (fun _ => ?_) (fun q => absurd q (by decide))
      refine lv_iload_n hx hb d_M_does_131 rfl (lv_at hl 1 rfl) ?_
      refine lv_bipush (v := 114) hx hb d_M_does_132 (by decide) ?_
      refine lv_icmp_ne (tgt := 156) hx hb d_M_does_134 (by decide) (fun _ => ?_) (fun q => absurd q (by decide))
      refine lv_iload_n hx hb d_M_does_156 rfl (lv_at hl 1 rfl) ?_
      refine lv_bipush (v := 99) hx hb d_M_does_157 (by decide) ?_
      refine lv_icmp_ne (tgt := 177) hx hb d_M_does_159 (by decide) (fun q => absurd (by decide) q) (fun _ => ?_)
      refine lv_aload_n hx hb d_M_does_162 rfl (lv_at hl 2 rfl) ?_
      refine lv_aload_n hx hb d_M_does_163 rfl (lv_at hl 2 rfl) ?_
      refine f_get S cls_M hK hP 0 rfl 10 (by decide) fl_M_one rfl rfl d_M_does_164 ?_
      refine lv_aload_n hx hb d_M_does_167 rfl (lv_at hl 2 rfl) ?_
      refine f_get S cls_M hK hP 0 rfl 11 (by decide) fl_M_two rfl rfl d_M_does_168 ?_
      refine MI.callV (wr := []) S (c_M_cuts l D ca o sa [.ref ba, .int (nI kn), .ref sl, .ref sv, .ref pd, .int (nI pl), .int (nI q), .int (b2 wb), .int 99, .int (nI f), .int two, .int three] g f two hB (by omega)) k_M_94 hP hD hS hA hK [0, 1] [] rfl rfl (by decide) (by decide) (by decide) 0 (ci := 4) (fs := [.ref sa, .ref ba, .int (nI kn), .ref sl, .ref sv, .ref pd, .int (nI pl), .int (nI q), .int (b2 wb), .int 99, .int (nI f), .int two, .int three]) rfl rfl rfl rfl hl.1 ⟨Nat.le_of_ble_eq_true rfl, Nat.le_of_ble_eq_true rfl⟩ ⟨Nat.zero_le _, Nat.zero_le _⟩ (Nat.le_of_ble_eq_true rfl) d_M_does_171 (fun H locs hP hD hS => ?_)
      obtain ⟨g3, hg3⟩ : ∃ z : Nat → Int32, z = upd g (8 + f) two := ⟨_, rfl⟩
      rw [← hg3] at hP hD
      have hP : va_P D classes [(o, .inr (4, [.ref sa, .ref ba, .int (nI kn), .ref sl, .ref sv, .ref pd, .int (nI pl), .int (nI q), .int (b2 wb), .int 99, .int (nI f), .int two, .int three])), (sa, .inl (ca 0, 170, .inl g3))] H := hP
      have hD : va_D A [(o, .inr (4, [.ref sa, .ref ba, .int (nI kn), .ref sl, .ref sv, .ref pd, .int (nI pl), .int (nI q), .int (b2 wb), .int 99, .int (nI f), .int two, .int three])), (sa, .inl (ca 0, 170, .inl g3))] := hD
      refine lv_goto (tgt := 198) hx hb d_M_does_174 (by decide) ?_
      refine lv_istore_n (lv' := [(3, .int (nI (bn g f) - two)), (2, .int (m_cf g (nI f) two)), (1, .int 99), (0, .ref o)]) hx hb d_M_does_198 rfl hl (by decide) rfl (fun ls hl => ?_)
      refine lv_iload_n hx hb d_M_does_199 rfl (lv_at hl 1 rfl) ?_
      refine lv_if_ne (tgt := 207) hx hb d_M_does_200 (by decide) (fun q => absurd (z_103) q) (fun _ => ?_)
      refine lv_iconst (v := 1) hx hb d_M_does_203 (by decide) ?_
      refine lv_goto (tgt := 208) hx hb d_M_does_204 (by decide) ?_
      exact hret _ _ _ _ _ _ d_M_does_208 rfl (by subst hg3; first | (simp only [mdo, Bool.false_eq_true, z_103, hcl, ↓reduceIte]; done) | (simp only [mdo, Bool.false_eq_true, z_103, hcl, ↓reduceIte]; rfl) | rfl) (by subst hg3; first | (simp only [mdo, Bool.false_eq_true, z_103, hcl, ↓reduceIte]; done) | (simp only [mdo, Bool.false_eq_true, z_103, hcl, ↓reduceIte]; rfl) | rfl) hP hD hS
  · subst hc
    refine lv_aload_n hx hb d_M_does_0 rfl (lv_at hl 0 rfl) ?_
    refine f_get S cls_M hK hP 0 rfl 9 (by decide) fl_M_letter rfl rfl d_M_does_1 ?_
    refine lv_istore_n (lv' := [(1, .int 109), (0, .ref o)]) hx hb d_M_does_4 rfl hl (by decide) rfl (fun ls hl => ?_)
    refine lv_iload_n hx hb d_M_does_5 rfl (lv_at hl 0 rfl) ?_
    refine lv_bipush (v := 119) hx hb d_M_does_6 (by decide) ?_
    refine lv_icmp_ne (tgt := 30) hx hb d_M_does_8 (by decide) (fun _ => ?_) (fun q => absurd q (by decide))
    refine lv_iload_n hx hb d_M_does_30 rfl (lv_at hl 0 rfl) ?_
    refine lv_bipush (v := 114) hx hb d_M_does_31 (by decide) ?_
    refine lv_icmp_ne (tgt := 55) hx hb d_M_does_33 (by decide) (fun _ => ?_) (fun q => absurd q (by decide))
    refine lv_iload_n hx hb d_M_does_55 rfl (lv_at hl 0 rfl) ?_
    refine lv_bipush (v := 99) hx hb d_M_does_56 (by decide) ?_
    refine lv_icmp_ne (tgt := 76) hx hb d_M_does_58 (by decide) (fun _ => ?_) (fun q => absurd q (by decide))
    refine lv_iload_n hx hb d_M_does_76 rfl (lv_at hl 0 rfl) ?_
    refine lv_bipush (v := 109) hx hb d_M_does_77 (by decide) ?_
    refine lv_icmp_ne (tgt := 100) hx hb d_M_does_79 (by decide) (fun q => absurd (by decide) q) (fun _ => ?_)
    refine lv_aload_n hx hb d_M_does_82 rfl (lv_at hl 1 rfl) ?_
    refine f_get S cls_M hK hP 0 rfl 11 (by decide) fl_M_two rfl rfl d_M_does_83 ?_
    refine lv_aload_n hx hb d_M_does_86 rfl (lv_at hl 1 rfl) ?_
    refine f_get S cls_M hK hP 0 rfl 0 (by decide) fl_M_s rfl rfl d_M_does_87 ?_
    refine lv_iconst (v := 0) hx hb d_M_does_90 (by decide) ?_
    refine A_ild S hK hP 1 0 (f := g) rfl rfl (r := 0) (by omega) (by decide) rfl d_M_does_91 ?_
    refine lv_icmp_le (tgt := 100) hx hb d_M_does_92 (by decide) (fun c_92 => ?_) (fun c_92 => ?_)
    · refine lv_iconst (v := 0) hx hb d_M_does_100 (by decide) ?_
      refine lv_istore_n (lv' := [(2, .int 0), (1, .int 109), (0, .ref o)]) hx hb d_M_does_101 rfl hl (by decide) rfl (fun ls hl => ?_)
      refine lv_iload_n hx hb d_M_does_102 rfl (lv_at hl 0 rfl) ?_
      refine lv_if_ne (tgt := 199) hx hb d_M_does_103 (by decide) (fun q => absurd (by decide) q) (fun _ => ?_)
      refine lv_iload_n hx hb d_M_does_106 rfl (lv_at hl 1 rfl) ?_
      refine lv_bipush (v := 119) hx hb d_M_does_107 (by decide) ?_
      refine lv_icmp_ne (tgt := 131) hx hb d_M_does_109 (by decide) (fun _ => ?_) (fun q => absurd q (by decide))
      refine lv_iload_n hx hb d_M_does_131 rfl (lv_at hl 1 rfl) ?_
      refine lv_bipush (v := 114) hx hb d_M_does_132 (by decide) ?_
      refine lv_icmp_ne (tgt := 156) hx hb d_M_does_134 (by decide) (fun _ => ?_) (fun q => absurd q (by decide))
      refine lv_iload_n hx hb d_M_does_156 rfl (lv_at hl 1 rfl) ?_
      refine lv_bipush (v := 99) hx hb d_M_does_157 (by decide) ?_
      refine lv_icmp_ne (tgt := 177) hx hb d_M_does_159 (by decide) (fun _ => ?_) (fun q => absurd q (by decide))
      refine lv_iload_n hx hb d_M_does_177 rfl (lv_at hl 1 rfl) ?_
      refine lv_bipush (v := 109) hx hb d_M_does_178 (by decide) ?_
      refine lv_icmp_ne (tgt := 194) hx hb d_M_does_180 (by decide) (fun q => absurd (by decide) q) (fun _ => ?_)
      refine lv_aload_n hx hb d_M_does_183 rfl (lv_at hl 2 rfl) ?_
      refine lv_aload_n hx hb d_M_does_184 rfl (lv_at hl 2 rfl) ?_
      refine f_get S cls_M hK hP 0 rfl 11 (by decide) fl_M_two rfl rfl d_M_does_185 ?_
      refine MI.callV (wr := []) S (c_M_moves l D ca o sa [.ref ba, .int (nI kn), .ref sl, .ref sv, .ref pd, .int (nI pl), .int (nI q), .int (b2 wb), .int 109, .int one, .int two, .int three] g two ) k_M_97 hP hD hS hA hK [0, 1] [] rfl rfl (by decide) (by decide) (by decide) 0 (ci := 4) (fs := [.ref sa, .ref ba, .int (nI kn), .ref sl, .ref sv, .ref pd, .int (nI pl), .int (nI q), .int (b2 wb), .int 109, .int one, .int two, .int three]) rfl rfl rfl rfl hl.1 ⟨Nat.le_of_ble_eq_true rfl, Nat.le_of_ble_eq_true rfl⟩ ⟨Nat.zero_le _, Nat.zero_le _⟩ (Nat.le_of_ble_eq_true rfl) d_M_does_188 (fun H locs hP hD hS => ?_)
      obtain ⟨g4, hg4⟩ : ∃ z : Nat → Int32, z = tvm g two := ⟨_, rfl⟩
      rw [← hg4] at hP hD
      have hP : va_P D classes [(o, .inr (4, [.ref sa, .ref ba, .int (nI kn), .ref sl, .ref sv, .ref pd, .int (nI pl), .int (nI q), .int (b2 wb), .int 109, .int one, .int two, .int three])), (sa, .inl (ca 0, 170, .inl g4))] H := hP
      have hD : va_D A [(o, .inr (4, [.ref sa, .ref ba, .int (nI kn), .ref sl, .ref sv, .ref pd, .int (nI pl), .int (nI q), .int (b2 wb), .int 109, .int one, .int two, .int three])), (sa, .inl (ca 0, 170, .inl g4))] := hD
      refine lv_goto (tgt := 198) hx hb d_M_does_191 (by decide) ?_
      refine lv_istore_n (lv' := [(3, .int (ap (g 3) two)), (2, .int 0), (1, .int 109), (0, .ref o)]) hx hb d_M_does_198 rfl hl (by decide) rfl (fun ls hl => ?_)
      refine lv_iload_n hx hb d_M_does_199 rfl (lv_at hl 1 rfl) ?_
      refine lv_if_ne (tgt := 207) hx hb d_M_does_200 (by decide) (fun q => absurd (by decide) q) (fun _ => ?_)
      refine lv_iconst (v := 1) hx hb d_M_does_203 (by decide) ?_
      refine lv_goto (tgt := 208) hx hb d_M_does_204 (by decide) ?_
      exact hret _ _ _ _ _ _ d_M_does_208 rfl (by subst hg4; first | (simp only [mdo, Bool.false_eq_true, c_92, ↓reduceIte]; done) | (simp only [mdo, Bool.false_eq_true, c_92, ↓reduceIte]; rfl) | rfl) (by subst hg4; first | (simp only [mdo, Bool.false_eq_true, c_92, ↓reduceIte]; done) | (simp only [mdo, Bool.false_eq_true, c_92, ↓reduceIte]; rfl) | rfl) hP hD hS
    · refine lv_bipush (v := (-2)) hx hb d_M_does_95 (by decide) ?_
      refine lv_goto (tgt := 101) hx hb d_M_does_97 (by decide) ?_
      refine lv_istore_n (lv' := [(2, .int (-2)), (1, .int 109), (0, .ref o)]) hx hb d_M_does_101 rfl hl (by decide) rfl (fun ls hl => ?_)
      refine lv_iload_n hx hb d_M_does_102 rfl (lv_at hl 0 rfl) ?_
      refine lv_if_ne (tgt := 199) hx hb d_M_does_103 (by decide) (fun _ => ?_) (fun q => absurd q (by decide))
      refine lv_iload_n hx hb d_M_does_199 rfl (lv_at hl 0 rfl) ?_
      refine lv_if_ne (tgt := 207) hx hb d_M_does_200 (by decide) (fun _ => ?_) (fun q => absurd q (by decide))
      refine lv_iconst (v := 0) hx hb d_M_does_207 (by decide) ?_
      exact hret _ _ _ _ _ _ d_M_does_208 rfl (by first | (simp only [mdo, Bool.false_eq_true, c_92, ↓reduceIte]; done) | (simp only [mdo, Bool.false_eq_true, c_92, ↓reduceIte]; rfl) | rfl) (by first | (simp only [mdo, Bool.false_eq_true, c_92, ↓reduceIte]; done) | (simp only [mdo, Bool.false_eq_true, c_92, ↓reduceIte]; rfl) | rfl) hP hD hS
  · subst hc
    refine lv_aload_n hx hb d_M_does_0 rfl (lv_at hl 0 rfl) ?_
    refine f_get S cls_M hK hP 0 rfl 9 (by decide) fl_M_letter rfl rfl d_M_does_1 ?_
    refine lv_istore_n (lv' := [(1, .int 120), (0, .ref o)]) hx hb d_M_does_4 rfl hl (by decide) rfl (fun ls hl => ?_)
    refine lv_iload_n hx hb d_M_does_5 rfl (lv_at hl 0 rfl) ?_
    refine lv_bipush (v := 119) hx hb d_M_does_6 (by decide) ?_
    refine lv_icmp_ne (tgt := 30) hx hb d_M_does_8 (by decide) (fun _ => ?_) (fun q => absurd q (by decide))
    refine lv_iload_n hx hb d_M_does_30 rfl (lv_at hl 0 rfl) ?_
    refine lv_bipush (v := 114) hx hb d_M_does_31 (by decide) ?_
    refine lv_icmp_ne (tgt := 55) hx hb d_M_does_33 (by decide) (fun _ => ?_) (fun q => absurd q (by decide))
    refine lv_iload_n hx hb d_M_does_55 rfl (lv_at hl 0 rfl) ?_
    refine lv_bipush (v := 99) hx hb d_M_does_56 (by decide) ?_
    refine lv_icmp_ne (tgt := 76) hx hb d_M_does_58 (by decide) (fun _ => ?_) (fun q => absurd q (by decide))
    refine lv_iload_n hx hb d_M_does_76 rfl (lv_at hl 0 rfl) ?_
    refine lv_bipush (v := 109) hx hb d_M_does_77 (by decide) ?_
    refine lv_icmp_ne (tgt := 100) hx hb d_M_does_79 (by decide) (fun _ => ?_) (fun q => absurd q (by decide))
    refine lv_iconst (v := 0) hx hb d_M_does_100 (by decide) ?_
    refine lv_istore_n (lv' := [(2, .int 0), (1, .int 120), (0, .ref o)]) hx hb d_M_does_101 rfl hl (by decide) rfl (fun ls hl => ?_)
    refine lv_iload_n hx hb d_M_does_102 rfl (lv_at hl 0 rfl) ?_
    refine lv_if_ne (tgt := 199) hx hb d_M_does_103 (by decide) (fun q => absurd (by decide) q) (fun _ => ?_)
    refine lv_iload_n hx hb d_M_does_106 rfl (lv_at hl 1 rfl) ?_
    refine lv_bipush (v := 119) hx hb d_M_does_107 (by decide) ?_
    refine lv_icmp_ne (tgt := 131) hx hb d_M_does_109 (by decide) (fun _ => ?_) (fun q => absurd q (by decide))
    refine lv_iload_n hx hb d_M_does_131 rfl (lv_at hl 1 rfl) ?_
    refine lv_bipush (v := 114) hx hb d_M_does_132 (by decide) ?_
    refine lv_icmp_ne (tgt := 156) hx hb d_M_does_134 (by decide) (fun _ => ?_) (fun q => absurd q (by decide))
    refine lv_iload_n hx hb d_M_does_156 rfl (lv_at hl 1 rfl) ?_
    refine lv_bipush (v := 99) hx hb d_M_does_157 (by decide) ?_
    refine lv_icmp_ne (tgt := 177) hx hb d_M_does_159 (by decide) (fun _ => ?_) (fun q => absurd q (by decide))
    refine lv_iload_n hx hb d_M_does_177 rfl (lv_at hl 1 rfl) ?_
    refine lv_bipush (v := 109) hx hb d_M_does_178 (by decide) ?_
    refine lv_icmp_ne (tgt := 194) hx hb d_M_does_180 (by decide) (fun _ => ?_) (fun q => absurd q (by decide))
    refine lv_aload_n hx hb d_M_does_194 rfl (lv_at hl 2 rfl) ?_
    refine MI.callV (wr := []) S (c_M_rewinds l D ca o sa [.ref ba, .int (nI kn), .ref sl, .ref sv, .ref pd, .int (nI pl), .int (nI q), .int (b2 wb), .int 120, .int one, .int two, .int three] g  ) k_M_100 hP hD hS hA hK [0, 1] [] rfl rfl (by decide) (by decide) (by decide) 0 (ci := 4) (fs := [.ref sa, .ref ba, .int (nI kn), .ref sl, .ref sv, .ref pd, .int (nI pl), .int (nI q), .int (b2 wb), .int 120, .int one, .int two, .int three]) rfl rfl rfl rfl hl.1 ⟨Nat.le_of_ble_eq_true rfl, Nat.le_of_ble_eq_true rfl⟩ ⟨Nat.zero_le _, Nat.zero_le _⟩ (Nat.le_of_ble_eq_true rfl) d_M_does_195 (fun H locs hP hD hS => ?_)
    obtain ⟨g5, hg5⟩ : ∃ z : Nat → Int32, z = (m_rew g).2 := ⟨_, rfl⟩
    rw [← hg5] at hP hD
    have hP : va_P D classes [(o, .inr (4, [.ref sa, .ref ba, .int (nI kn), .ref sl, .ref sv, .ref pd, .int (nI pl), .int (nI q), .int (b2 wb), .int 120, .int one, .int two, .int three])), (sa, .inl (ca 0, 170, .inl g5))] H := hP
    have hD : va_D A [(o, .inr (4, [.ref sa, .ref ba, .int (nI kn), .ref sl, .ref sv, .ref pd, .int (nI pl), .int (nI q), .int (b2 wb), .int 120, .int one, .int two, .int three])), (sa, .inl (ca 0, 170, .inl g5))] := hD
    refine lv_istore_n (lv' := [(3, .int ((m_rew g).1)), (2, .int 0), (1, .int 120), (0, .ref o)]) hx hb d_M_does_198 rfl hl (by decide) rfl (fun ls hl => ?_)
    refine lv_iload_n hx hb d_M_does_199 rfl (lv_at hl 1 rfl) ?_
    refine lv_if_ne (tgt := 207) hx hb d_M_does_200 (by decide) (fun q => absurd (by decide) q) (fun _ => ?_)
    refine lv_iconst (v := 1) hx hb d_M_does_203 (by decide) ?_
    refine lv_goto (tgt := 208) hx hb d_M_does_204 (by decide) ?_
    exact hret _ _ _ _ _ _ d_M_does_208 rfl (by subst hg5; first | (simp only [mdo, Bool.false_eq_true, ↓reduceIte]; done) | (simp only [mdo, Bool.false_eq_true, ↓reduceIte]; rfl) | rfl) (by subst hg5; first | (simp only [mdo, Bool.false_eq_true, ↓reduceIte]; done) | (simp only [mdo, Bool.false_eq_true, ↓reduceIte]; rfl) | rfl) hP hD hS
  · refine lv_aload_n hx hb d_M_does_0 rfl (lv_at hl 0 rfl) ?_
    refine f_get S cls_M hK hP 0 rfl 9 (by decide) fl_M_letter rfl rfl d_M_does_1 ?_
    refine lv_istore_n (lv' := [(1, .int le), (0, .ref o)]) hx hb d_M_does_4 rfl hl (by decide) rfl (fun ls hl => ?_)
    refine lv_iload_n hx hb d_M_does_5 rfl (lv_at hl 0 rfl) ?_
    refine lv_bipush (v := 119) hx hb d_M_does_6 (by decide) ?_
    refine lv_icmp_ne (tgt := 30) hx hb d_M_does_8 (by decide) (fun _ => ?_) (fun q => absurd q (h119))
    refine lv_iload_n hx hb d_M_does_30 rfl (lv_at hl 0 rfl) ?_
    refine lv_bipush (v := 114) hx hb d_M_does_31 (by decide) ?_
    refine lv_icmp_ne (tgt := 55) hx hb d_M_does_33 (by decide) (fun _ => ?_) (fun q => absurd q (h114))
    refine lv_iload_n hx hb d_M_does_55 rfl (lv_at hl 0 rfl) ?_
    refine lv_bipush (v := 99) hx hb d_M_does_56 (by decide) ?_
    refine lv_icmp_ne (tgt := 76) hx hb d_M_does_58 (by decide) (fun _ => ?_) (fun q => absurd q (h99))
    refine lv_iload_n hx hb d_M_does_76 rfl (lv_at hl 0 rfl) ?_
    refine lv_bipush (v := 109) hx hb d_M_does_77 (by decide) ?_
    refine lv_icmp_ne (tgt := 100) hx hb d_M_does_79 (by decide) (fun _ => ?_) (fun q => absurd q (h109))
    refine lv_iconst (v := 0) hx hb d_M_does_100 (by decide) ?_
    refine lv_istore_n (lv' := [(2, .int 0), (1, .int le), (0, .ref o)]) hx hb d_M_does_101 rfl hl (by decide) rfl (fun ls hl => ?_)
    refine lv_iload_n hx hb d_M_does_102 rfl (lv_at hl 0 rfl) ?_
    refine lv_if_ne (tgt := 199) hx hb d_M_does_103 (by decide) (fun q => absurd (by decide) q) (fun _ => ?_)
    refine lv_iload_n hx hb d_M_does_106 rfl (lv_at hl 1 rfl) ?_
    refine lv_bipush (v := 119) hx hb d_M_does_107 (by decide) ?_
    refine lv_icmp_ne (tgt := 131) hx hb d_M_does_109 (by decide) (fun _ => ?_) (fun q => absurd q (h119))
    refine lv_iload_n hx hb d_M_does_131 rfl (lv_at hl 1 rfl) ?_
    refine lv_bipush (v := 114) hx hb d_M_does_132 (by decide) ?_
    refine lv_icmp_ne (tgt := 156) hx hb d_M_does_134 (by decide) (fun _ => ?_) (fun q => absurd q (h114))
    refine lv_iload_n hx hb d_M_does_156 rfl (lv_at hl 1 rfl) ?_
    refine lv_bipush (v := 99) hx hb d_M_does_157 (by decide) ?_
    refine lv_icmp_ne (tgt := 177) hx hb d_M_does_159 (by decide) (fun _ => ?_) (fun q => absurd q (h99))
    refine lv_iload_n hx hb d_M_does_177 rfl (lv_at hl 1 rfl) ?_
    refine lv_bipush (v := 109) hx hb d_M_does_178 (by decide) ?_
    refine lv_icmp_ne (tgt := 194) hx hb d_M_does_180 (by decide) (fun _ => ?_) (fun q => absurd q (h109))
    refine lv_aload_n hx hb d_M_does_194 rfl (lv_at hl 2 rfl) ?_
    refine MI.callV (wr := []) S (c_M_rewinds l D ca o sa [.ref ba, .int (nI kn), .ref sl, .ref sv, .ref pd, .int (nI pl), .int (nI q), .int (b2 wb), .int le, .int one, .int two, .int three] g  ) k_M_100 hP hD hS hA hK [0, 1] [] rfl rfl (by decide) (by decide) (by decide) 0 (ci := 4) (fs := [.ref sa, .ref ba, .int (nI kn), .ref sl, .ref sv, .ref pd, .int (nI pl), .int (nI q), .int (b2 wb), .int le, .int one, .int two, .int three]) rfl rfl rfl rfl hl.1 ⟨Nat.le_of_ble_eq_true rfl, Nat.le_of_ble_eq_true rfl⟩ ⟨Nat.zero_le _, Nat.zero_le _⟩ (Nat.le_of_ble_eq_true rfl) d_M_does_195 (fun H locs hP hD hS => ?_)
    obtain ⟨g6, hg6⟩ : ∃ z : Nat → Int32, z = (m_rew g).2 := ⟨_, rfl⟩
    rw [← hg6] at hP hD
    have hP : va_P D classes [(o, .inr (4, [.ref sa, .ref ba, .int (nI kn), .ref sl, .ref sv, .ref pd, .int (nI pl), .int (nI q), .int (b2 wb), .int le, .int one, .int two, .int three])), (sa, .inl (ca 0, 170, .inl g6))] H := hP
    have hD : va_D A [(o, .inr (4, [.ref sa, .ref ba, .int (nI kn), .ref sl, .ref sv, .ref pd, .int (nI pl), .int (nI q), .int (b2 wb), .int le, .int one, .int two, .int three])), (sa, .inl (ca 0, 170, .inl g6))] := hD
    refine lv_istore_n (lv' := [(3, .int ((m_rew g).1)), (2, .int 0), (1, .int le), (0, .ref o)]) hx hb d_M_does_198 rfl hl (by decide) rfl (fun ls hl => ?_)
    refine lv_iload_n hx hb d_M_does_199 rfl (lv_at hl 1 rfl) ?_
    refine lv_if_ne (tgt := 207) hx hb d_M_does_200 (by decide) (fun q => absurd (by decide) q) (fun _ => ?_)
    refine lv_iconst (v := 1) hx hb d_M_does_203 (by decide) ?_
    refine lv_goto (tgt := 208) hx hb d_M_does_204 (by decide) ?_
    exact hret _ _ _ _ _ _ d_M_does_208 rfl (by subst hg6; first | (simp only [mdo, Bool.false_eq_true, h119, h114, h99, h109, h120, ↓reduceIte]; done) | (simp only [mdo, Bool.false_eq_true, h119, h114, h99, h109, h120, ↓reduceIte]; rfl) | rfl) (by subst hg6; first | (simp only [mdo, Bool.false_eq_true, h119, h114, h99, h109, h120, ↓reduceIte]; done) | (simp only [mdo, Bool.false_eq_true, h119, h114, h99, h109, h120, ↓reduceIte]; rfl) | rfl) hP hD hS
set_option maxHeartbeats 4000000 in
set_option maxRecDepth 100000 in
theorem c_M_go0 (l : Launch) (D : va_G) (ca : Nat → ClassId) (o sa ba sl sv pd : Nat) (P : Nat → Int32) (kn pl q : Nat) (wb : Bool) (le one two three : Int32) (hpl : pl ≤ 80) : MI l y_M_go b_M_go 6 (some .int) 4 90 D ca [.ref o, .int 0] [(o, .inr (4, [.ref sa, .ref ba, .int (nI kn), .ref sl, .ref sv, .ref pd, .int (nI pl), .int (nI q), .int (b2 wb), .int le, .int one, .int two, .int three])), (pd, .inl (ca 0, 80, .inl P))] 0 [(o, .inr (4, [.ref sa, .ref ba, .int (nI kn), .ref sl, .ref sv, .ref pd, .int (nI pl), .int (nI ((mg P pl (pl + 1) 0).1.1)), .int (b2 (mg P pl (pl + 1) 0).1.2), .int ((mg P pl (pl + 1) 0).2.1), .int ((mg P pl (pl + 1) 0).2.2.1), .int ((mg P pl (pl + 1) 0).2.2.2.1), .int ((mg P pl (pl + 1) 0).2.2.2.2)])), (pd, .inl (ca 0, 80, .inl P))] := by
  refine MI.mk (ty := .int) rfl rfl (Nat.le_of_ble_eq_true rfl) ?_
  intro p_ e s m args below meth c Q A S hA hP hD hK
  obtain ⟨hx, hb, hml, hown, hts⟩ := id S
  intro hret ls hl0 hS
  have hl : lv_has ls 6 [(0, .ref o), (1, .int 0)] := hl0
  refine lv_aload_n hx hb d_M_go_0 rfl (lv_at hl 0 rfl) ?_
  refine lv_iconst (v := 0) hx hb d_M_go_1 (by decide) ?_
  refine f_put S cls_M hK hP hD hS 0 rfl 7 (by decide) fl_M_place rfl rfl (rfl) (rfl) (Nat.le_of_ble_eq_true rfl) d_M_go_2 (fun H locs hP hD hS => ?_)
  have hP : va_P D classes [(o, .inr (4, [.ref sa, .ref ba, .int (nI kn), .ref sl, .ref sv, .ref pd, .int (nI pl), .int 0, .int (b2 wb), .int le, .int one, .int two, .int three])), (pd, .inl (ca 0, 80, .inl P))] H := hP
  have hD : va_D A [(o, .inr (4, [.ref sa, .ref ba, .int (nI kn), .ref sl, .ref sv, .ref pd, .int (nI pl), .int 0, .int (b2 wb), .int le, .int one, .int two, .int three])), (pd, .inl (ca 0, 80, .inl P))] := hD
  refine lv_aload_n hx hb d_M_go_5 rfl (lv_at hl 0 rfl) ?_
  refine lv_iconst (v := 0) hx hb d_M_go_6 (by decide) ?_
  refine f_put S cls_M hK hP hD hS 0 rfl 8 (by decide) fl_M_isWrong rfl rfl (rfl) (rfl) (Nat.le_of_ble_eq_true rfl) d_M_go_7 (fun H locs hP hD hS => ?_)
  have hP : va_P D classes [(o, .inr (4, [.ref sa, .ref ba, .int (nI kn), .ref sl, .ref sv, .ref pd, .int (nI pl), .int 0, .int 0, .int le, .int one, .int two, .int three])), (pd, .inl (ca 0, 80, .inl P))] H := hP
  have hD : va_D A [(o, .inr (4, [.ref sa, .ref ba, .int (nI kn), .ref sl, .ref sv, .ref pd, .int (nI pl), .int 0, .int 0, .int le, .int one, .int two, .int three])), (pd, .inl (ca 0, 80, .inl P))] := hD
  refine lv_iconst (v := 0) hx hb d_M_go_10 (by decide) ?_
  refine lv_istore_n (lv' := [(2, .int 0), (0, .ref o), (1, .int 0)]) hx hb d_M_go_11 rfl hl (by decide) rfl (fun ls hl => ?_)
  refine lv_iconst (v := 1) hx hb d_M_go_12 (by decide) ?_
  refine lv_istore_n (lv' := [(3, .int 1), (2, .int 0), (0, .ref o), (1, .int 0)]) hx hb d_M_go_13 rfl hl (by decide) rfl (fun ls hl => ?_)
  suffices lp : ∀ (f p : Nat) (le1 one1 two1 three1 : Int32), pl - p < f → p ≤ pl → mg P pl (pl + 1) 0 = mg P pl f p → ∀ (H : Heap) (locs : List Loc), va_P D classes [(o, .inr (4, [.ref sa, .ref ba, .int (nI kn), .ref sl, .ref sv, .ref pd, .int (nI pl), .int (nI p), .int (b2 false), .int le1, .int one1, .int two1, .int three1])), (pd, .inl (ca 0, 80, .inl P))] H → va_D A [(o, .inr (4, [.ref sa, .ref ba, .int (nI kn), .ref sl, .ref sv, .ref pd, .int (nI pl), .int (nI p), .int (b2 false), .int le1, .int one1, .int two1, .int three1])), (pd, .inl (ca 0, 80, .inl P))] → va_S A s.heap H locs → ∀ ls : Array Slot, lv_has ls 6 [(2, .int 0), (3, .int 1), (0, .ref o), (1, .int 0)] → W p_ l e (rm 4 90 0 0) s m args below meth c H locs 0 0 Q (F0 m 14 ls []) from lp (pl + 1) 0 le one two three (by omega) (by omega) rfl _ _ hP hD hS _ (lv_sub hl [1, 0, 2, 3] rfl)
  intro f
  induction f with
  | zero => intro p le1 one1 two1 three1 hf; omega
  | succ f ih =>
    intro p le1 one1 two1 three1 hf hp hE H locs hP hD hS ls hl
    refine lv_iload_n hx hb d_M_go_14 rfl (lv_at hl 1 rfl) ?_
    refine lv_if_eq (tgt := 116) hx hb d_M_go_15 (by decide) (fun q => absurd q (by decide)) (fun _ => ?_)
    refine lv_aload_n hx hb d_M_go_18 rfl (lv_at hl 2 rfl) ?_
    refine MV.callV (wr := []) S (c_M_order l D ca  o sa ba sl sv pd P kn pl p le1 one1 two1 three1 (by omega) (hp)) k_M_151 hP hD hS hA hK [0, 1] [] rfl rfl (by decide) (by decide) (by decide) 0 (ci := 4) (fs := [.ref sa, .ref ba, .int (nI kn), .ref sl, .ref sv, .ref pd, .int (nI pl), .int (nI p), .int (b2 false), .int le1, .int one1, .int two1, .int three1]) rfl rfl rfl rfl hl.1 ⟨Nat.le_of_ble_eq_true rfl, Nat.le_of_ble_eq_true rfl⟩ ⟨Nat.zero_le _, Nat.zero_le _⟩ (Nat.le_of_ble_eq_true rfl) d_M_go_19 (fun H locs hP hD hS => ?_)
    have hP : va_P D classes [(o, .inr (4, [.ref sa, .ref ba, .int (nI kn), .ref sl, .ref sv, .ref pd, .int (nI pl), .int (nI ((mo P pl p).1.1)), .int (b2 (mo P pl p).1.2), .int (chr P pl p), .int ((mo P pl p).2.1), .int ((mo P pl p).2.2.1), .int ((mo P pl p).2.2.2)])), (pd, .inl (ca 0, 80, .inl P))] H := hP
    have hD : va_D A [(o, .inr (4, [.ref sa, .ref ba, .int (nI kn), .ref sl, .ref sv, .ref pd, .int (nI pl), .int (nI ((mo P pl p).1.1)), .int (b2 (mo P pl p).1.2), .int (chr P pl p), .int ((mo P pl p).2.1), .int ((mo P pl p).2.2.1), .int ((mo P pl p).2.2.2)])), (pd, .inl (ca 0, 80, .inl P))] := hD
    obtain ⟨z, hz⟩ : ∃ z_, z_ = mo P pl p := ⟨_, rfl⟩
    rw [← hz] at hP hD
    have hzb := mo_bd (P := P) (n := pl) hp
    rw [← hz] at hzb
    refine lv_iload_n hx hb d_M_go_22 rfl (lv_at hl 3 rfl) ?_
    refine lv_if_eq (tgt := 37) hx hb d_M_go_23 (by decide) (fun _ => ?_) (fun q => absurd (by decide) q)
    refine lv_iconst (v := 0) hx hb d_M_go_37 (by decide) ?_
    refine lv_istore (lv' := [(4, .int 0), (2, .int 0), (3, .int 1), (0, .ref o), (1, .int 0)]) hx hb d_M_go_38 hl (by decide) rfl (fun ls hl => ?_)
    refine lv_iload_n hx hb d_M_go_40 rfl (lv_at hl 1 rfl) ?_
    refine lv_iload hx hb d_M_go_41 (lv_at hl 0 rfl) ?_
    refine lv_if_eq (tgt := 50) hx hb d_M_go_43 (by decide) (fun _ => ?_) (fun q => absurd (by decide) q)
    refine lv_iconst (v := 0) hx hb d_M_go_50 (by decide) ?_
    refine lv_iadd hx hb d_M_go_51 ?_
    refine lv_tope (z := 0) (by decide) ?_
    refine lv_istore_n (lv' := [(2, .int 0), (4, .int 0), (3, .int 1), (0, .ref o), (1, .int 0)]) hx hb d_M_go_52 rfl hl (by decide) rfl (fun ls hl => ?_)
    refine lv_aload_n hx hb d_M_go_53 rfl (lv_at hl 3 rfl) ?_
    refine f_get S cls_M hK hP 0 rfl 8 (by decide) fl_M_isWrong rfl rfl d_M_go_54 ?_
    refine lv_if_ne (tgt := 84) hx hb d_M_go_57 (by decide) (fun c_57 => ?_) (fun c_57 => ?_)
    · have e_57 := b2_n c_57
      refine lv_iconst (v := 0) hx hb d_M_go_84 (by decide) ?_
      refine lv_istore_n (lv' := [(3, .int 0), (2, .int 0), (4, .int 0), (0, .ref o), (1, .int 0)]) hx hb d_M_go_85 rfl hl (by decide) rfl (fun ls hl => ?_)
      refine lv_iload_n hx hb d_M_go_86 rfl (lv_at hl 0 rfl) ?_
      refine lv_if_eq (tgt := 113) hx hb d_M_go_87 (by decide) (fun _ => ?_) (fun q => absurd (by decide) q)
      refine lv_goto (tgt := 14) hx hb d_M_go_113 (by decide) ?_
      refine lv_iload_n hx hb d_M_go_14 rfl (lv_at hl 0 rfl) ?_
      refine lv_if_eq (tgt := 116) hx hb d_M_go_15 (by decide) (fun _ => ?_) (fun q => absurd (by decide) q)
      have hR : mg P pl (pl + 1) 0 = (z.1, chr P pl p, z.2.1, z.2.2.1, z.2.2.2) := by rw [hE]; simp only [mg, ← hz, e_57, Bool.false_eq_true, ↓reduceIte]
      refine lv_iload_n hx hb d_M_go_116 rfl (lv_at hl 1 rfl) ?_
      exact hret _ _ _ _ _ _ d_M_go_117 rfl rfl (by rw [hR]) hP hD hS
    · have e_57 := b2_z c_57
      refine lv_iload hx hb d_M_go_60 (lv_at hl 1 rfl) ?_
      refine lv_if_ne (tgt := 69) hx hb d_M_go_62 (by decide) (fun q => absurd (by decide) q) (fun _ => ?_)
      refine lv_iload_n hx hb d_M_go_65 rfl (lv_at hl 4 rfl) ?_
      refine lv_if_ne (tgt := 84) hx hb d_M_go_66 (by decide) (fun q => absurd (by decide) q) (fun _ => ?_)
      refine lv_aload_n hx hb d_M_go_69 rfl (lv_at hl 3 rfl) ?_
      refine f_get S cls_M hK hP 0 rfl 7 (by decide) fl_M_place rfl rfl d_M_go_70 ?_
      refine lv_aload_n hx hb d_M_go_73 rfl (lv_at hl 3 rfl) ?_
      refine f_get S cls_M hK hP 0 rfl 6 (by decide) fl_M_padLength rfl rfl d_M_go_74 ?_
      refine lv_icmp_ge (tgt := 84) hx hb d_M_go_77 (by decide) (fun c_77 => ?_) (fun c_77 => ?_)
      · have e_77 : ¬ z.1.1 < pl := by have := le_of_nI (by omega) (by omega) c_77; omega
        refine lv_iconst (v := 0) hx hb d_M_go_84 (by decide) ?_
        refine lv_istore_n (lv' := [(3, .int 0), (2, .int 0), (4, .int 0), (0, .ref o), (1, .int 0)]) hx hb d_M_go_85 rfl hl (by decide) rfl (fun ls hl => ?_)
        refine lv_iload_n hx hb d_M_go_86 rfl (lv_at hl 0 rfl) ?_
        refine lv_if_eq (tgt := 113) hx hb d_M_go_87 (by decide) (fun _ => ?_) (fun q => absurd (by decide) q)
        refine lv_goto (tgt := 14) hx hb d_M_go_113 (by decide) ?_
        refine lv_iload_n hx hb d_M_go_14 rfl (lv_at hl 0 rfl) ?_
        refine lv_if_eq (tgt := 116) hx hb d_M_go_15 (by decide) (fun _ => ?_) (fun q => absurd (by decide) q)
        have hR : mg P pl (pl + 1) 0 = (z.1, chr P pl p, z.2.1, z.2.2.1, z.2.2.2) := by rw [hE]; simp only [mg, ← hz, e_57, e_77, Bool.false_eq_true, ↓reduceIte]
        refine lv_iload_n hx hb d_M_go_116 rfl (lv_at hl 1 rfl) ?_
        exact hret _ _ _ _ _ _ d_M_go_117 rfl rfl (by rw [hR]) hP hD hS
      · have e_77 : z.1.1 < pl := nle_lt (by omega) (by omega) c_77
        refine lv_iconst (v := 1) hx hb d_M_go_80 (by decide) ?_
        refine lv_goto (tgt := 85) hx hb d_M_go_81 (by decide) ?_
        refine lv_istore_n (lv' := [(3, .int 1), (2, .int 0), (4, .int 0), (0, .ref o), (1, .int 0)]) hx hb d_M_go_85 rfl hl (by decide) rfl (fun ls hl => ?_)
        refine lv_iload_n hx hb d_M_go_86 rfl (lv_at hl 0 rfl) ?_
        refine lv_if_eq (tgt := 113) hx hb d_M_go_87 (by decide) (fun q => absurd q (by decide)) (fun _ => ?_)
        refine lv_aload_n hx hb d_M_go_90 rfl (lv_at hl 3 rfl) ?_
        refine lv_bipush (v := 59) hx hb d_M_go_91 (by decide) ?_
        refine lv_bipush (v := 59) hx hb d_M_go_93 (by decide) ?_
        refine MI.callV (wr := []) S (c_M_sign l D ca  o sa ba sl sv pd P kn pl z.1.1 z.1.2 (chr P pl p) z.2.1 z.2.2.1 z.2.2.2 59 59 (by omega) (hzb.1)) k_M_130 hP hD hS hA hK [0, 1] [] rfl rfl (by decide) (by decide) (by decide) 0 (ci := 4) (fs := [.ref sa, .ref ba, .int (nI kn), .ref sl, .ref sv, .ref pd, .int (nI pl), .int (nI (z.1.1)), .int (b2 z.1.2), .int (chr P pl p), .int z.2.1, .int z.2.2.1, .int z.2.2.2]) rfl rfl rfl rfl hl.1 ⟨Nat.le_of_ble_eq_true rfl, Nat.le_of_ble_eq_true rfl⟩ ⟨Nat.zero_le _, Nat.zero_le _⟩ (Nat.le_of_ble_eq_true rfl) d_M_go_95 (fun H locs hP hD hS => ?_)
        have hP : va_P D classes [(o, .inr (4, [.ref sa, .ref ba, .int (nI kn), .ref sl, .ref sv, .ref pd, .int (nI pl), .int (nI ((sg P pl 59 59 (z.1.1, z.1.2)).1)), .int (b2 (sg P pl 59 59 (z.1.1, z.1.2)).2), .int (chr P pl p), .int z.2.1, .int z.2.2.1, .int z.2.2.2])), (pd, .inl (ca 0, 80, .inl P))] H := hP
        have hD : va_D A [(o, .inr (4, [.ref sa, .ref ba, .int (nI kn), .ref sl, .ref sv, .ref pd, .int (nI pl), .int (nI ((sg P pl 59 59 (z.1.1, z.1.2)).1)), .int (b2 (sg P pl 59 59 (z.1.1, z.1.2)).2), .int (chr P pl p), .int z.2.1, .int z.2.2.1, .int z.2.2.2])), (pd, .inl (ca 0, 80, .inl P))] := hD
        obtain ⟨q2, hq2⟩ : ∃ z_, z_ = sg P pl 59 59 z.1 := ⟨_, rfl⟩
        rw [← hq2] at hP hD
        refine lv_istore (lv' := [(5, .int (chr P pl z.1.1)), (3, .int 1), (2, .int 0), (4, .int 0), (0, .ref o), (1, .int 0)]) hx hb d_M_go_98 hl (by decide) rfl (fun ls hl => ?_)
        refine lv_aload_n hx hb d_M_go_100 rfl (lv_at hl 4 rfl) ?_
        refine f_get S cls_M hK hP 0 rfl 8 (by decide) fl_M_isWrong rfl rfl d_M_go_101 ?_
        refine lv_if_ne (tgt := 111) hx hb d_M_go_104 (by decide) (fun c_104 => ?_) (fun c_104 => ?_)
        · have e_104 := b2_n c_104
          refine lv_iconst (v := 0) hx hb d_M_go_111 (by decide) ?_
          refine lv_istore_n (lv' := [(3, .int 0), (5, .int (chr P pl z.1.1)), (2, .int 0), (4, .int 0), (0, .ref o), (1, .int 0)]) hx hb d_M_go_112 rfl hl (by decide) rfl (fun ls hl => ?_)
          refine lv_goto (tgt := 14) hx hb d_M_go_113 (by decide) ?_
          refine lv_iload_n hx hb d_M_go_14 rfl (lv_at hl 0 rfl) ?_
          refine lv_if_eq (tgt := 116) hx hb d_M_go_15 (by decide) (fun _ => ?_) (fun q => absurd (by decide) q)
          have hR : mg P pl (pl + 1) 0 = (q2, chr P pl p, z.2.1, z.2.2.1, z.2.2.2) := by rw [hE]; simp only [mg, ← hz, ← hq2, e_57, e_77, e_104, Bool.false_eq_true, ↓reduceIte]
          refine lv_iload_n hx hb d_M_go_116 rfl (lv_at hl 2 rfl) ?_
          exact hret _ _ _ _ _ _ d_M_go_117 rfl rfl (by rw [hR]) hP hD hS
        · have e_104 := b2_z c_104
          rw [e_104] at hP hD
          refine lv_iconst (v := 1) hx hb d_M_go_107 (by decide) ?_
          refine lv_goto (tgt := 112) hx hb d_M_go_108 (by decide) ?_
          refine lv_istore_n (lv' := [(3, .int 1), (5, .int (chr P pl z.1.1)), (2, .int 0), (4, .int 0), (0, .ref o), (1, .int 0)]) hx hb d_M_go_112 rfl hl (by decide) rfl (fun ls hl => ?_)
          refine lv_goto (tgt := 14) hx hb d_M_go_113 (by decide) ?_
          have hq2b := sg_bd (P := P) (n := pl) (a := 59) (b := 59) (q := z.1) (by decide) hzb.1
          have hzp := hzb.2 e_57
          rw [← hq2] at hq2b
          have hE2 : mg P pl (pl + 1) 0 = mg P pl f q2.1 := by rw [hE]; simp only [mg, ← hz, ← hq2, e_57, e_77, e_104, Bool.false_eq_true, ↓reduceIte]
          exact ih q2.1 _ _ _ _ (by omega) hq2b.2 hE2 _ _ hP hD hS _ (lv_sub hl [2, 0, 4, 5] rfl)
set_option maxHeartbeats 4000000 in
set_option maxRecDepth 100000 in
theorem c_M_go1 (l : Launch) (D : va_G) (ca : Nat → ClassId) (o sa ba sl sv pd : Nat) (P g : Nat → Int32) (kn pl q : Nat) (wb : Bool) (le one two three : Int32) (hpl : pl ≤ 80) (hB : BN g) : MI l y_M_go b_M_go 6 (some .int) 8 183 D ca [.ref o, .int 1] [(o, .inr (4, [.ref sa, .ref ba, .int (nI kn), .ref sl, .ref sv, .ref pd, .int (nI pl), .int (nI q), .int (b2 wb), .int le, .int one, .int two, .int three])), (pd, .inl (ca 0, 80, .inl P)), (sa, .inl (ca 0, 170, .inl g))] (nI (mh P pl (pl + 1) 0 0 g).1.1) [(o, .inr (4, [.ref sa, .ref ba, .int (nI kn), .ref sl, .ref sv, .ref pd, .int (nI pl), .int (nI ((mh P pl (pl + 1) 0 0 g).2.1.1)), .int (b2 (mh P pl (pl + 1) 0 0 g).2.1.2), .int ((mh P pl (pl + 1) 0 0 g).2.2.1), .int ((mh P pl (pl + 1) 0 0 g).2.2.2.1), .int ((mh P pl (pl + 1) 0 0 g).2.2.2.2.1), .int ((mh P pl (pl + 1) 0 0 g).2.2.2.2.2)])), (pd, .inl (ca 0, 80, .inl P)), (sa, .inl (ca 0, 170, .inl ((mh P pl (pl + 1) 0 0 g).1.2)))] := by
  refine MI.mk (ty := .int) rfl rfl (Nat.le_of_ble_eq_true rfl) ?_
  intro p_ e s m args below meth c Q A S hA hP hD hK
  obtain ⟨hx, hb, hml, hown, hts⟩ := id S
  intro hret ls hl0 hS
  have hl : lv_has ls 6 [(0, .ref o), (1, .int 1)] := hl0
  refine lv_aload_n hx hb d_M_go_0 rfl (lv_at hl 0 rfl) ?_
  refine lv_iconst (v := 0) hx hb d_M_go_1 (by decide) ?_
  refine f_put S cls_M hK hP hD hS 0 rfl 7 (by decide) fl_M_place rfl rfl (rfl) (rfl) (Nat.le_of_ble_eq_true rfl) d_M_go_2 (fun H locs hP hD hS => ?_)
  have hP : va_P D classes [(o, .inr (4, [.ref sa, .ref ba, .int (nI kn), .ref sl, .ref sv, .ref pd, .int (nI pl), .int 0, .int (b2 wb), .int le, .int one, .int two, .int three])), (pd, .inl (ca 0, 80, .inl P)), (sa, .inl (ca 0, 170, .inl g))] H := hP
  have hD : va_D A [(o, .inr (4, [.ref sa, .ref ba, .int (nI kn), .ref sl, .ref sv, .ref pd, .int (nI pl), .int 0, .int (b2 wb), .int le, .int one, .int two, .int three])), (pd, .inl (ca 0, 80, .inl P)), (sa, .inl (ca 0, 170, .inl g))] := hD
  refine lv_aload_n hx hb d_M_go_5 rfl (lv_at hl 0 rfl) ?_
  refine lv_iconst (v := 0) hx hb d_M_go_6 (by decide) ?_
  refine f_put S cls_M hK hP hD hS 0 rfl 8 (by decide) fl_M_isWrong rfl rfl (rfl) (rfl) (Nat.le_of_ble_eq_true rfl) d_M_go_7 (fun H locs hP hD hS => ?_)
  have hP : va_P D classes [(o, .inr (4, [.ref sa, .ref ba, .int (nI kn), .ref sl, .ref sv, .ref pd, .int (nI pl), .int 0, .int 0, .int le, .int one, .int two, .int three])), (pd, .inl (ca 0, 80, .inl P)), (sa, .inl (ca 0, 170, .inl g))] H := hP
  have hD : va_D A [(o, .inr (4, [.ref sa, .ref ba, .int (nI kn), .ref sl, .ref sv, .ref pd, .int (nI pl), .int 0, .int 0, .int le, .int one, .int two, .int three])), (pd, .inl (ca 0, 80, .inl P)), (sa, .inl (ca 0, 170, .inl g))] := hD
  refine lv_iconst (v := 0) hx hb d_M_go_10 (by decide) ?_
  refine lv_istore_n (lv' := [(2, .int 0), (0, .ref o), (1, .int 1)]) hx hb d_M_go_11 rfl hl (by decide) rfl (fun ls hl => ?_)
  refine lv_iconst (v := 1) hx hb d_M_go_12 (by decide) ?_
  refine lv_istore_n (lv' := [(3, .int 1), (2, .int 0), (0, .ref o), (1, .int 1)]) hx hb d_M_go_13 rfl hl (by decide) rfl (fun ls hl => ?_)
  suffices lp : ∀ (f p : Nat) (k : Nat) (g1 : Nat → Int32) (le1 one1 two1 three1 : Int32), pl - p < f → p ≤ pl → BN g1 → mh P pl (pl + 1) 0 0 g = mh P pl f p k g1 → ∀ (H : Heap) (locs : List Loc), va_P D classes [(o, .inr (4, [.ref sa, .ref ba, .int (nI kn), .ref sl, .ref sv, .ref pd, .int (nI pl), .int (nI p), .int (b2 false), .int le1, .int one1, .int two1, .int three1])), (pd, .inl (ca 0, 80, .inl P)), (sa, .inl (ca 0, 170, .inl g1))] H → va_D A [(o, .inr (4, [.ref sa, .ref ba, .int (nI kn), .ref sl, .ref sv, .ref pd, .int (nI pl), .int (nI p), .int (b2 false), .int le1, .int one1, .int two1, .int three1])), (pd, .inl (ca 0, 80, .inl P)), (sa, .inl (ca 0, 170, .inl g1))] → va_S A s.heap H locs → ∀ ls : Array Slot, lv_has ls 6 [(2, .int (nI k)), (3, .int 1), (0, .ref o), (1, .int 1)] → W p_ l e (rm 8 183 0 0) s m args below meth c H locs 0 0 Q (F0 m 14 ls []) from lp (pl + 1) 0 0 g le one two three (by omega) (by omega) hB rfl _ _ hP hD hS _ (lv_sub hl [1, 0, 2, 3] rfl)
  intro f
  induction f with
  | zero => intro p k g1 le1 one1 two1 three1 hf; omega
  | succ f ih =>
    intro p k g1 le1 one1 two1 three1 hf hp hB1 hE H locs hP hD hS ls hl
    refine lv_iload_n hx hb d_M_go_14 rfl (lv_at hl 1 rfl) ?_
    refine lv_if_eq (tgt := 116) hx hb d_M_go_15 (by decide) (fun q => absurd q (by decide)) (fun _ => ?_)
    refine lv_aload_n hx hb d_M_go_18 rfl (lv_at hl 2 rfl) ?_
    refine MV.callV (wr := [(sa, .inl (ca 0, 170, .inl g1))]) S (c_M_order l D ca  o sa ba sl sv pd P kn pl p le1 one1 two1 three1 (by omega) (hp)) k_M_151 hP hD hS hA hK [0, 1] [2] rfl rfl (by decide) (by decide) (by decide) 0 (ci := 4) (fs := [.ref sa, .ref ba, .int (nI kn), .ref sl, .ref sv, .ref pd, .int (nI pl), .int (nI p), .int (b2 false), .int le1, .int one1, .int two1, .int three1]) rfl rfl rfl rfl hl.1 ⟨Nat.le_of_ble_eq_true rfl, Nat.le_of_ble_eq_true rfl⟩ ⟨Nat.zero_le _, Nat.zero_le _⟩ (Nat.le_of_ble_eq_true rfl) d_M_go_19 (fun H locs hP hD hS => ?_)
    have hP : va_P D classes [(o, .inr (4, [.ref sa, .ref ba, .int (nI kn), .ref sl, .ref sv, .ref pd, .int (nI pl), .int (nI ((mo P pl p).1.1)), .int (b2 (mo P pl p).1.2), .int (chr P pl p), .int ((mo P pl p).2.1), .int ((mo P pl p).2.2.1), .int ((mo P pl p).2.2.2)])), (pd, .inl (ca 0, 80, .inl P)), (sa, .inl (ca 0, 170, .inl g1))] H := hP.sub [1, 2, 0] rfl
    have hD : va_D A [(o, .inr (4, [.ref sa, .ref ba, .int (nI kn), .ref sl, .ref sv, .ref pd, .int (nI pl), .int (nI ((mo P pl p).1.1)), .int (b2 (mo P pl p).1.2), .int (chr P pl p), .int ((mo P pl p).2.1), .int ((mo P pl p).2.2.1), .int ((mo P pl p).2.2.2)])), (pd, .inl (ca 0, 80, .inl P)), (sa, .inl (ca 0, 170, .inl g1))] := hD.sub [1, 2, 0] (by decide) rfl
    obtain ⟨z, hz⟩ : ∃ z_, z_ = mo P pl p := ⟨_, rfl⟩
    rw [← hz] at hP hD
    have hzb := mo_bd (P := P) (n := pl) hp
    rw [← hz] at hzb
    refine lv_iload_n hx hb d_M_go_22 rfl (lv_at hl 3 rfl) ?_
    refine lv_if_eq (tgt := 37) hx hb d_M_go_23 (by decide) (fun q => absurd q (by decide)) (fun _ => ?_)
    refine lv_aload_n hx hb d_M_go_26 rfl (lv_at hl 2 rfl) ?_
    refine MI.callV (wr := [(pd, .inl (ca 0, 80, .inl P))]) S (c_M_does l D ca  o sa ba sl sv pd g1 kn pl z.1.1 z.1.2 (chr P pl p) z.2.1 z.2.2.1 z.2.2.2 hB1) k_M_154 hP hD hS hA hK [0, 2] [1] rfl rfl (by decide) (by decide) (by decide) 0 (ci := 4) (fs := [.ref sa, .ref ba, .int (nI kn), .ref sl, .ref sv, .ref pd, .int (nI pl), .int (nI (z.1.1)), .int (b2 z.1.2), .int (chr P pl p), .int z.2.1, .int z.2.2.1, .int z.2.2.2]) rfl rfl rfl rfl hl.1 ⟨Nat.le_of_ble_eq_true rfl, Nat.le_of_ble_eq_true rfl⟩ ⟨Nat.zero_le _, Nat.zero_le _⟩ (Nat.le_of_ble_eq_true rfl) d_M_go_27 (fun H locs hP hD hS => ?_)
    have hP : va_P D classes [(o, .inr (4, [.ref sa, .ref ba, .int (nI kn), .ref sl, .ref sv, .ref pd, .int (nI pl), .int (nI z.1.1), .int (b2 z.1.2), .int (chr P pl p), .int z.2.1, .int z.2.2.1, .int z.2.2.2])), (pd, .inl (ca 0, 80, .inl P)), (sa, .inl (ca 0, 170, .inl ((mdo g1 (chr P pl p) z.2.1 z.2.2.1 z.2.2.2).2)))] H := hP.sub [1, 0, 2] rfl
    have hD : va_D A [(o, .inr (4, [.ref sa, .ref ba, .int (nI kn), .ref sl, .ref sv, .ref pd, .int (nI pl), .int (nI z.1.1), .int (b2 z.1.2), .int (chr P pl p), .int z.2.1, .int z.2.2.1, .int z.2.2.2])), (pd, .inl (ca 0, 80, .inl P)), (sa, .inl (ca 0, 170, .inl ((mdo g1 (chr P pl p) z.2.1 z.2.2.1 z.2.2.2).2)))] := hD.sub [1, 0, 2] (by decide) rfl
    obtain ⟨d, hd⟩ : ∃ z_, z_ = mdo g1 (chr P pl p) z.2.1 z.2.2.1 z.2.2.2 := ⟨_, rfl⟩
    rw [← hd] at hP hD ⊢
    refine lv_if_eq (tgt := 37) hx hb d_M_go_30 (by decide) (fun c_30 => ?_) (fun c_30 => ?_)
    · have e_30 := b2_z c_30
      refine lv_iconst (v := 0) hx hb d_M_go_37 (by decide) ?_
      refine lv_istore (lv' := [(4, .int 0), (2, .int (nI k)), (3, .int 1), (0, .ref o), (1, .int 1)]) hx hb d_M_go_38 hl (by decide) rfl (fun ls hl => ?_)
      refine lv_iload_n hx hb d_M_go_40 rfl (lv_at hl 1 rfl) ?_
      refine lv_iload hx hb d_M_go_41 (lv_at hl 0 rfl) ?_
      refine lv_if_eq (tgt := 50) hx hb d_M_go_43 (by decide) (fun _ => ?_) (fun q => absurd (by decide) q)
      refine lv_iconst (v := 0) hx hb d_M_go_50 (by decide) ?_
      refine lv_iadd hx hb d_M_go_51 ?_
      refine lv_tope (z := nI (k + 0)) (nI_add k 0) ?_
      refine lv_istore_n (lv' := [(2, .int (nI (k + 0))), (4, .int 0), (3, .int 1), (0, .ref o), (1, .int 1)]) hx hb d_M_go_52 rfl hl (by decide) rfl (fun ls hl => ?_)
      refine lv_aload_n hx hb d_M_go_53 rfl (lv_at hl 3 rfl) ?_
      refine f_get S cls_M hK hP 0 rfl 8 (by decide) fl_M_isWrong rfl rfl d_M_go_54 ?_
      refine lv_if_ne (tgt := 84) hx hb d_M_go_57 (by decide) (fun c_57 => ?_) (fun c_57 => ?_)
      · have e_57 := b2_n c_57
        refine lv_iconst (v := 0) hx hb d_M_go_84 (by decide) ?_
        refine lv_istore_n (lv' := [(3, .int 0), (2, .int (nI (k + 0))), (4, .int 0), (0, .ref o), (1, .int 1)]) hx hb d_M_go_85 rfl hl (by decide) rfl (fun ls hl => ?_)
        refine lv_iload_n hx hb d_M_go_86 rfl (lv_at hl 0 rfl) ?_
        refine lv_if_eq (tgt := 113) hx hb d_M_go_87 (by decide) (fun _ => ?_) (fun q => absurd (by decide) q)
        refine lv_goto (tgt := 14) hx hb d_M_go_113 (by decide) ?_
        refine lv_iload_n hx hb d_M_go_14 rfl (lv_at hl 0 rfl) ?_
        refine lv_if_eq (tgt := 116) hx hb d_M_go_15 (by decide) (fun _ => ?_) (fun q => absurd (by decide) q)
        have hR : mh P pl (pl + 1) 0 0 g = ((k + 0, d.2), z.1, chr P pl p, z.2.1, z.2.2.1, z.2.2.2) := by rw [hE]; simp only [mh, md, ← hz, ← hd, e_30, e_57, Bool.false_eq_true, ↓reduceIte, Nat.add_zero]
        refine lv_iload_n hx hb d_M_go_116 rfl (lv_at hl 1 rfl) ?_
        exact hret _ _ _ _ _ _ d_M_go_117 rfl (by rw [hR]) (by rw [hR]) hP hD hS
      · have e_57 := b2_z c_57
        refine lv_iload hx hb d_M_go_60 (lv_at hl 1 rfl) ?_
        refine lv_if_ne (tgt := 69) hx hb d_M_go_62 (by decide) (fun q => absurd (by decide) q) (fun _ => ?_)
        refine lv_iload_n hx hb d_M_go_65 rfl (lv_at hl 4 rfl) ?_
        refine lv_if_ne (tgt := 84) hx hb d_M_go_66 (by decide) (fun _ => ?_) (fun q => absurd q (by decide))
        refine lv_iconst (v := 0) hx hb d_M_go_84 (by decide) ?_
        refine lv_istore_n (lv' := [(3, .int 0), (2, .int (nI (k + 0))), (4, .int 0), (0, .ref o), (1, .int 1)]) hx hb d_M_go_85 rfl hl (by decide) rfl (fun ls hl => ?_)
        refine lv_iload_n hx hb d_M_go_86 rfl (lv_at hl 0 rfl) ?_
        refine lv_if_eq (tgt := 113) hx hb d_M_go_87 (by decide) (fun _ => ?_) (fun q => absurd (by decide) q)
        refine lv_goto (tgt := 14) hx hb d_M_go_113 (by decide) ?_
        refine lv_iload_n hx hb d_M_go_14 rfl (lv_at hl 0 rfl) ?_
        refine lv_if_eq (tgt := 116) hx hb d_M_go_15 (by decide) (fun _ => ?_) (fun q => absurd (by decide) q)
        have hR : mh P pl (pl + 1) 0 0 g = ((k + 0, d.2), z.1, chr P pl p, z.2.1, z.2.2.1, z.2.2.2) := by rw [hE]; simp only [mh, md, ← hz, ← hd, e_30, e_57, Bool.false_eq_true, ↓reduceIte, Nat.add_zero]
        refine lv_iload_n hx hb d_M_go_116 rfl (lv_at hl 1 rfl) ?_
        exact hret _ _ _ _ _ _ d_M_go_117 rfl (by rw [hR]) (by rw [hR]) hP hD hS
    · have e_30 := b2_n c_30
      refine lv_iconst (v := 1) hx hb d_M_go_33 (by decide) ?_
      refine lv_goto (tgt := 38) hx hb d_M_go_34 (by decide) ?_
      refine lv_istore (lv' := [(4, .int 1), (2, .int (nI k)), (3, .int 1), (0, .ref o), (1, .int 1)]) hx hb d_M_go_38 hl (by decide) rfl (fun ls hl => ?_)
      refine lv_iload_n hx hb d_M_go_40 rfl (lv_at hl 1 rfl) ?_
      refine lv_iload hx hb d_M_go_41 (lv_at hl 0 rfl) ?_
      refine lv_if_eq (tgt := 50) hx hb d_M_go_43 (by decide) (fun q => absurd q (by decide)) (fun _ => ?_)
      refine lv_iconst (v := 1) hx hb d_M_go_46 (by decide) ?_
      refine lv_goto (tgt := 51) hx hb d_M_go_47 (by decide) ?_
      refine lv_iadd hx hb d_M_go_51 ?_
      refine lv_tope (z := nI (k + 1)) (nI_add k 1) ?_
      refine lv_istore_n (lv' := [(2, .int (nI (k + 1))), (4, .int 1), (3, .int 1), (0, .ref o), (1, .int 1)]) hx hb d_M_go_52 rfl hl (by decide) rfl (fun ls hl => ?_)
      refine lv_aload_n hx hb d_M_go_53 rfl (lv_at hl 3 rfl) ?_
      refine f_get S cls_M hK hP 0 rfl 8 (by decide) fl_M_isWrong rfl rfl d_M_go_54 ?_
      refine lv_if_ne (tgt := 84) hx hb d_M_go_57 (by decide) (fun c_57 => ?_) (fun c_57 => ?_)
      · have e_57 := b2_n c_57
        refine lv_iconst (v := 0) hx hb d_M_go_84 (by decide) ?_
        refine lv_istore_n (lv' := [(3, .int 0), (2, .int (nI (k + 1))), (4, .int 1), (0, .ref o), (1, .int 1)]) hx hb d_M_go_85 rfl hl (by decide) rfl (fun ls hl => ?_)
        refine lv_iload_n hx hb d_M_go_86 rfl (lv_at hl 0 rfl) ?_
        refine lv_if_eq (tgt := 113) hx hb d_M_go_87 (by decide) (fun _ => ?_) (fun q => absurd (by decide) q)
        refine lv_goto (tgt := 14) hx hb d_M_go_113 (by decide) ?_
        refine lv_iload_n hx hb d_M_go_14 rfl (lv_at hl 0 rfl) ?_
        refine lv_if_eq (tgt := 116) hx hb d_M_go_15 (by decide) (fun _ => ?_) (fun q => absurd (by decide) q)
        have hR : mh P pl (pl + 1) 0 0 g = ((k + 1, d.2), z.1, chr P pl p, z.2.1, z.2.2.1, z.2.2.2) := by rw [hE]; simp only [mh, md, ← hz, ← hd, e_30, e_57, Bool.false_eq_true, ↓reduceIte, Nat.add_zero]
        refine lv_iload_n hx hb d_M_go_116 rfl (lv_at hl 1 rfl) ?_
        exact hret _ _ _ _ _ _ d_M_go_117 rfl (by rw [hR]) (by rw [hR]) hP hD hS
      · have e_57 := b2_z c_57
        refine lv_iload hx hb d_M_go_60 (lv_at hl 1 rfl) ?_
        refine lv_if_ne (tgt := 69) hx hb d_M_go_62 (by decide) (fun _ => ?_) (fun q => absurd q (by decide))
        refine lv_aload_n hx hb d_M_go_69 rfl (lv_at hl 3 rfl) ?_
        refine f_get S cls_M hK hP 0 rfl 7 (by decide) fl_M_place rfl rfl d_M_go_70 ?_
        refine lv_aload_n hx hb d_M_go_73 rfl (lv_at hl 3 rfl) ?_
        refine f_get S cls_M hK hP 0 rfl 6 (by decide) fl_M_padLength rfl rfl d_M_go_74 ?_
        refine lv_icmp_ge (tgt := 84) hx hb d_M_go_77 (by decide) (fun c_77 => ?_) (fun c_77 => ?_)
        · have e_77 : ¬ z.1.1 < pl := by have := le_of_nI (by omega) (by omega) c_77; omega
          refine lv_iconst (v := 0) hx hb d_M_go_84 (by decide) ?_
          refine lv_istore_n (lv' := [(3, .int 0), (2, .int (nI (k + 1))), (4, .int 1), (0, .ref o), (1, .int 1)]) hx hb d_M_go_85 rfl hl (by decide) rfl (fun ls hl => ?_)
          refine lv_iload_n hx hb d_M_go_86 rfl (lv_at hl 0 rfl) ?_
          refine lv_if_eq (tgt := 113) hx hb d_M_go_87 (by decide) (fun _ => ?_) (fun q => absurd (by decide) q)
          refine lv_goto (tgt := 14) hx hb d_M_go_113 (by decide) ?_
          refine lv_iload_n hx hb d_M_go_14 rfl (lv_at hl 0 rfl) ?_
          refine lv_if_eq (tgt := 116) hx hb d_M_go_15 (by decide) (fun _ => ?_) (fun q => absurd (by decide) q)
          have hR : mh P pl (pl + 1) 0 0 g = ((k + 1, d.2), z.1, chr P pl p, z.2.1, z.2.2.1, z.2.2.2) := by rw [hE]; simp only [mh, md, ← hz, ← hd, e_30, e_57, e_77, Bool.false_eq_true, ↓reduceIte, Nat.add_zero]
          refine lv_iload_n hx hb d_M_go_116 rfl (lv_at hl 1 rfl) ?_
          exact hret _ _ _ _ _ _ d_M_go_117 rfl (by rw [hR]) (by rw [hR]) hP hD hS
        · have e_77 : z.1.1 < pl := nle_lt (by omega) (by omega) c_77
          refine lv_iconst (v := 1) hx hb d_M_go_80 (by decide) ?_
          refine lv_goto (tgt := 85) hx hb d_M_go_81 (by decide) ?_
          refine lv_istore_n (lv' := [(3, .int 1), (2, .int (nI (k + 1))), (4, .int 1), (0, .ref o), (1, .int 1)]) hx hb d_M_go_85 rfl hl (by decide) rfl (fun ls hl => ?_)
          refine lv_iload_n hx hb d_M_go_86 rfl (lv_at hl 0 rfl) ?_
          refine lv_if_eq (tgt := 113) hx hb d_M_go_87 (by decide) (fun q => absurd q (by decide)) (fun _ => ?_)
          refine lv_aload_n hx hb d_M_go_90 rfl (lv_at hl 3 rfl) ?_
          refine lv_bipush (v := 59) hx hb d_M_go_91 (by decide) ?_
          refine lv_bipush (v := 59) hx hb d_M_go_93 (by decide) ?_
          refine MI.callV (wr := [(sa, .inl (ca 0, 170, .inl d.2))]) S (c_M_sign l D ca  o sa ba sl sv pd P kn pl z.1.1 z.1.2 (chr P pl p) z.2.1 z.2.2.1 z.2.2.2 59 59 (by omega) (hzb.1)) k_M_130 hP hD hS hA hK [0, 1] [2] rfl rfl (by decide) (by decide) (by decide) 0 (ci := 4) (fs := [.ref sa, .ref ba, .int (nI kn), .ref sl, .ref sv, .ref pd, .int (nI pl), .int (nI z.1.1), .int (b2 z.1.2), .int (chr P pl p), .int z.2.1, .int z.2.2.1, .int z.2.2.2]) rfl rfl rfl rfl hl.1 ⟨Nat.le_of_ble_eq_true rfl, Nat.le_of_ble_eq_true rfl⟩ ⟨Nat.zero_le _, Nat.zero_le _⟩ (Nat.le_of_ble_eq_true rfl) d_M_go_95 (fun H locs hP hD hS => ?_)
          have hP : va_P D classes [(o, .inr (4, [.ref sa, .ref ba, .int (nI kn), .ref sl, .ref sv, .ref pd, .int (nI pl), .int (nI ((sg P pl 59 59 (z.1.1, z.1.2)).1)), .int (b2 (sg P pl 59 59 (z.1.1, z.1.2)).2), .int (chr P pl p), .int z.2.1, .int z.2.2.1, .int z.2.2.2])), (pd, .inl (ca 0, 80, .inl P)), (sa, .inl (ca 0, 170, .inl d.2))] H := hP.sub [1, 2, 0] rfl
          have hD : va_D A [(o, .inr (4, [.ref sa, .ref ba, .int (nI kn), .ref sl, .ref sv, .ref pd, .int (nI pl), .int (nI ((sg P pl 59 59 (z.1.1, z.1.2)).1)), .int (b2 (sg P pl 59 59 (z.1.1, z.1.2)).2), .int (chr P pl p), .int z.2.1, .int z.2.2.1, .int z.2.2.2])), (pd, .inl (ca 0, 80, .inl P)), (sa, .inl (ca 0, 170, .inl d.2))] := hD.sub [1, 2, 0] (by decide) rfl
          obtain ⟨q2, hq2⟩ : ∃ z_, z_ = sg P pl 59 59 z.1 := ⟨_, rfl⟩
          rw [← hq2] at hP hD
          refine lv_istore (lv' := [(5, .int (chr P pl z.1.1)), (3, .int 1), (2, .int (nI (k + 1))), (4, .int 1), (0, .ref o), (1, .int 1)]) hx hb d_M_go_98 hl (by decide) rfl (fun ls hl => ?_)
          refine lv_aload_n hx hb d_M_go_100 rfl (lv_at hl 4 rfl) ?_
          refine f_get S cls_M hK hP 0 rfl 8 (by decide) fl_M_isWrong rfl rfl d_M_go_101 ?_
          refine lv_if_ne (tgt := 111) hx hb d_M_go_104 (by decide) (fun c_104 => ?_) (fun c_104 => ?_)
          · have e_104 := b2_n c_104
            refine lv_iconst (v := 0) hx hb d_M_go_111 (by decide) ?_
            refine lv_istore_n (lv' := [(3, .int 0), (5, .int (chr P pl z.1.1)), (2, .int (nI (k + 1))), (4, .int 1), (0, .ref o), (1, .int 1)]) hx hb d_M_go_112 rfl hl (by decide) rfl (fun ls hl => ?_)
            refine lv_goto (tgt := 14) hx hb d_M_go_113 (by decide) ?_
            refine lv_iload_n hx hb d_M_go_14 rfl (lv_at hl 0 rfl) ?_
            refine lv_if_eq (tgt := 116) hx hb d_M_go_15 (by decide) (fun _ => ?_) (fun q => absurd (by decide) q)
            have hR : mh P pl (pl + 1) 0 0 g = ((k + 1, d.2), q2, chr P pl p, z.2.1, z.2.2.1, z.2.2.2) := by rw [hE]; simp only [mh, md, ← hz, ← hd, ← hq2, e_30, e_57, e_77, e_104, Bool.false_eq_true, ↓reduceIte, Nat.add_zero]
            refine lv_iload_n hx hb d_M_go_116 rfl (lv_at hl 2 rfl) ?_
            exact hret _ _ _ _ _ _ d_M_go_117 rfl (by rw [hR]) (by rw [hR]) hP hD hS
          · have e_104 := b2_z c_104
            rw [e_104] at hP hD
            refine lv_iconst (v := 1) hx hb d_M_go_107 (by decide) ?_
            refine lv_goto (tgt := 112) hx hb d_M_go_108 (by decide) ?_
            refine lv_istore_n (lv' := [(3, .int 1), (5, .int (chr P pl z.1.1)), (2, .int (nI (k + 1))), (4, .int 1), (0, .ref o), (1, .int 1)]) hx hb d_M_go_112 rfl hl (by decide) rfl (fun ls hl => ?_)
            refine lv_goto (tgt := 14) hx hb d_M_go_113 (by decide) ?_
            have hq2b := sg_bd (P := P) (n := pl) (a := 59) (b := 59) (q := z.1) (by decide) hzb.1
            have hzp := hzb.2 e_57
            rw [← hq2] at hq2b
            have hE2 : mh P pl (pl + 1) 0 0 g = mh P pl f q2.1 (k + 1) d.2 := by rw [hE]; simp only [mh, md, ← hz, ← hd, ← hq2, e_30, e_57, e_77, e_104, Bool.false_eq_true, ↓reduceIte]
            exact ih q2.1 (k + 1) d.2 _ _ _ _ (by omega) hq2b.2 (by rw [hd]; exact BN_mdo hB1) hE2 _ _ hP hD hS _ (lv_sub hl [2, 0, 4, 5] rfl)
def m_fau (P : Nat → Int32) (n : Nat) : Int32 := if (mg P n (n + 1) 0).1.2 = true then nI (mg P n (n + 1) 0).1.1 else -6
set_option maxHeartbeats 4000000 in
set_option maxRecDepth 100000 in
theorem c_M_fault (l : Launch) (D : va_G) (ca : Nat → ClassId) (o sa ba sl sv pd : Nat) (P : Nat → Int32) (kn pl q : Nat) (wb : Bool) (le one two three : Int32) (hpl : pl ≤ 80) : MI l y_M_fault b_M_fault 2 (some .int) 5 115 D ca [.ref o] [(o, .inr (4, [.ref sa, .ref ba, .int (nI kn), .ref sl, .ref sv, .ref pd, .int (nI pl), .int (nI q), .int (b2 wb), .int le, .int one, .int two, .int three])), (pd, .inl (ca 0, 80, .inl P))] (m_fau P pl) [(o, .inr (4, [.ref sa, .ref ba, .int (nI kn), .ref sl, .ref sv, .ref pd, .int (nI pl), .int (nI ((mg P pl (pl + 1) 0).1.1)), .int (b2 (mg P pl (pl + 1) 0).1.2), .int ((mg P pl (pl + 1) 0).2.1), .int ((mg P pl (pl + 1) 0).2.2.1), .int ((mg P pl (pl + 1) 0).2.2.2.1), .int ((mg P pl (pl + 1) 0).2.2.2.2)])), (pd, .inl (ca 0, 80, .inl P))] := by
  refine MI.mk (ty := .int) rfl rfl (Nat.le_of_ble_eq_true rfl) ?_
  intro p e s m args below meth c Q A S hA hP hD hK
  obtain ⟨hx, hb, hml, hown, hts⟩ := id S
  intro hret ls hl0 hS
  have hl : lv_has ls 2 [(0, .ref o)] := hl0
  refine lv_aload_n hx hb d_M_fault_0 rfl (lv_at hl 0 rfl) ?_
  refine lv_iconst (v := 0) hx hb d_M_fault_1 (by decide) ?_
  refine MI.callV (wr := []) S (c_M_go0 l D ca  o sa ba sl sv pd P kn pl q wb le one two three (by omega)) k_M_158 hP hD hS hA hK [0, 1] [] rfl rfl (by decide) (by decide) (by decide) 0 (ci := 4) (fs := [.ref sa, .ref ba, .int (nI kn), .ref sl, .ref sv, .ref pd, .int (nI pl), .int (nI q), .int (b2 wb), .int le, .int one, .int two, .int three]) rfl rfl rfl rfl hl.1 ⟨Nat.le_of_ble_eq_true rfl, Nat.le_of_ble_eq_true rfl⟩ ⟨Nat.zero_le _, Nat.zero_le _⟩ (Nat.le_of_ble_eq_true rfl) d_M_fault_2 (fun H locs hP hD hS => ?_)
  have hP : va_P D classes [(o, .inr (4, [.ref sa, .ref ba, .int (nI kn), .ref sl, .ref sv, .ref pd, .int (nI pl), .int (nI ((mg P pl (pl + 1) 0).1.1)), .int (b2 (mg P pl (pl + 1) 0).1.2), .int ((mg P pl (pl + 1) 0).2.1), .int ((mg P pl (pl + 1) 0).2.2.1), .int ((mg P pl (pl + 1) 0).2.2.2.1), .int ((mg P pl (pl + 1) 0).2.2.2.2)])), (pd, .inl (ca 0, 80, .inl P))] H := hP
  have hD : va_D A [(o, .inr (4, [.ref sa, .ref ba, .int (nI kn), .ref sl, .ref sv, .ref pd, .int (nI pl), .int (nI ((mg P pl (pl + 1) 0).1.1)), .int (b2 (mg P pl (pl + 1) 0).1.2), .int ((mg P pl (pl + 1) 0).2.1), .int ((mg P pl (pl + 1) 0).2.2.1), .int ((mg P pl (pl + 1) 0).2.2.2.1), .int ((mg P pl (pl + 1) 0).2.2.2.2)])), (pd, .inl (ca 0, 80, .inl P))] := hD
  refine lv_istore_n (lv' := [(1, .int 0), (0, .ref o)]) hx hb d_M_fault_5 rfl hl (by decide) rfl (fun ls hl => ?_)
  refine lv_aload_n hx hb d_M_fault_6 rfl (lv_at hl 1 rfl) ?_
  refine f_get S cls_M hK hP 0 rfl 8 (by decide) fl_M_isWrong rfl rfl d_M_fault_7 ?_
  refine lv_if_eq (tgt := 20) hx hb d_M_fault_10 (by decide) (fun c_10 => ?_) (fun c_10 => ?_)
  · have e_10 := b2_z c_10
    refine lv_bipush (v := (-6)) hx hb d_M_fault_20 (by decide) ?_
    exact hret _ _ _ _ _ _ d_M_fault_22 rfl (by first | (simp only [m_fau, Bool.false_eq_true, e_10, ↓reduceIte]; done) | (simp only [m_fau, Bool.false_eq_true, e_10, ↓reduceIte]; rfl) | rfl) (by first | (simp only [m_fau, Bool.false_eq_true, e_10, ↓reduceIte]; done) | (simp only [m_fau, Bool.false_eq_true, e_10, ↓reduceIte]; rfl) | rfl) hP hD hS
  · have e_10 := b2_n c_10
    refine lv_aload_n hx hb d_M_fault_13 rfl (lv_at hl 1 rfl) ?_
    refine f_get S cls_M hK hP 0 rfl 7 (by decide) fl_M_place rfl rfl d_M_fault_14 ?_
    refine lv_goto (tgt := 22) hx hb d_M_fault_17 (by decide) ?_
    exact hret _ _ _ _ _ _ d_M_fault_22 rfl (by first | (simp only [m_fau, Bool.false_eq_true, e_10, ↓reduceIte]; done) | (simp only [m_fau, Bool.false_eq_true, e_10, ↓reduceIte]; rfl) | rfl) (by first | (simp only [m_fau, Bool.false_eq_true, e_10, ↓reduceIte]; done) | (simp only [m_fau, Bool.false_eq_true, e_10, ↓reduceIte]; rfl) | rfl) hP hD hS
def m_car (P : Nat → Int32) (n : Nat) (g : Nat → Int32) : Int32 × (Nat → Int32) × Bool × Nat := if (mg P n (n + 1) 0).1.2 = true then (-3, g, false, n) else (nI (mh P n (n + 1) 0 0 g).1.1, (mh P n (n + 1) 0 0 g).1.2, true, 0)
set_option maxHeartbeats 4000000 in
set_option maxRecDepth 100000 in
theorem c_M_carryOut (l : Launch) (D : va_G) (ca : Nat → ClassId) (o sa ba sl sv pd : Nat) (P g B : Nat → Int32) (kn pl q : Nat) (wb : Bool) (le one two three : Int32) (hpl : pl ≤ 80) (hB : BN g) (hn6 : kn ≤ 6) : MI l y_M_carryOut b_M_carryOut 3 (some .int) 9 208 D ca [.ref o] [(o, .inr (4, [.ref sa, .ref ba, .int (nI kn), .ref sl, .ref sv, .ref pd, .int (nI pl), .int (nI q), .int (b2 wb), .int le, .int one, .int two, .int three])), (pd, .inl (ca 0, 80, .inl P)), (sa, .inl (ca 0, 170, .inl g)), (ba, .inl (ca 0, 1020, .inl B))] ((m_car P pl g).1) [(o, .inr (4, [.ref sa, .ref ba, .int (nI (kbn (m_car P pl g).2.2.1 kn)), .ref sl, .ref sv, .ref pd, .int (nI ((m_car P pl g).2.2.2)), .int (nI ((mz P pl g).1.1)), .int (b2 (mz P pl g).1.2), .int ((mz P pl g).2.1), .int ((mz P pl g).2.2.1), .int ((mz P pl g).2.2.2.1), .int ((mz P pl g).2.2.2.2)])), (pd, .inl (ca 0, 80, .inl P)), (sa, .inl (ca 0, 170, .inl ((m_car P pl g).2.1))), (ba, .inl (ca 0, 1020, .inl (kbB (m_car P pl g).2.2.1 g B kn)))] := by
  refine MI.mk (ty := .int) rfl rfl (Nat.le_of_ble_eq_true rfl) ?_
  intro p e s m args below meth c Q A S hA hP hD hK
  obtain ⟨hx, hb, hml, hown, hts⟩ := id S
  intro hret ls hl0 hS
  have hl : lv_has ls 3 [(0, .ref o)] := hl0
  refine lv_aload_n hx hb d_M_carryOut_0 rfl (lv_at hl 0 rfl) ?_
  refine lv_iconst (v := 0) hx hb d_M_carryOut_1 (by decide) ?_
  refine MI.callV (wr := [(sa, .inl (ca 0, 170, .inl g)), (ba, .inl (ca 0, 1020, .inl B))]) S (c_M_go0 l D ca  o sa ba sl sv pd P kn pl q wb le one two three (by omega)) k_M_158 hP hD hS hA hK [0, 1] [2, 3] rfl rfl (by decide) (by decide) (by decide) 0 (ci := 4) (fs := [.ref sa, .ref ba, .int (nI kn), .ref sl, .ref sv, .ref pd, .int (nI pl), .int (nI q), .int (b2 wb), .int le, .int one, .int two, .int three]) rfl rfl rfl rfl hl.1 ⟨Nat.le_of_ble_eq_true rfl, Nat.le_of_ble_eq_true rfl⟩ ⟨Nat.zero_le _, Nat.zero_le _⟩ (Nat.le_of_ble_eq_true rfl) d_M_carryOut_2 (fun H locs hP hD hS => ?_)
  have hP : va_P D classes [(o, .inr (4, [.ref sa, .ref ba, .int (nI kn), .ref sl, .ref sv, .ref pd, .int (nI pl), .int (nI ((mg P pl (pl + 1) 0).1.1)), .int (b2 (mg P pl (pl + 1) 0).1.2), .int ((mg P pl (pl + 1) 0).2.1), .int ((mg P pl (pl + 1) 0).2.2.1), .int ((mg P pl (pl + 1) 0).2.2.2.1), .int ((mg P pl (pl + 1) 0).2.2.2.2)])), (pd, .inl (ca 0, 80, .inl P)), (sa, .inl (ca 0, 170, .inl g)), (ba, .inl (ca 0, 1020, .inl B))] H := hP.sub [2, 3, 0, 1] rfl
  have hD : va_D A [(o, .inr (4, [.ref sa, .ref ba, .int (nI kn), .ref sl, .ref sv, .ref pd, .int (nI pl), .int (nI ((mg P pl (pl + 1) 0).1.1)), .int (b2 (mg P pl (pl + 1) 0).1.2), .int ((mg P pl (pl + 1) 0).2.1), .int ((mg P pl (pl + 1) 0).2.2.1), .int ((mg P pl (pl + 1) 0).2.2.2.1), .int ((mg P pl (pl + 1) 0).2.2.2.2)])), (pd, .inl (ca 0, 80, .inl P)), (sa, .inl (ca 0, 170, .inl g)), (ba, .inl (ca 0, 1020, .inl B))] := hD.sub [2, 3, 0, 1] (by decide) rfl
  refine lv_istore_n (lv' := [(1, .int 0), (0, .ref o)]) hx hb d_M_carryOut_5 rfl hl (by decide) rfl (fun ls hl => ?_)
  refine lv_aload_n hx hb d_M_carryOut_6 rfl (lv_at hl 1 rfl) ?_
  refine f_get S cls_M hK hP 0 rfl 8 (by decide) fl_M_isWrong rfl rfl d_M_carryOut_7 ?_
  refine lv_if_eq (tgt := 16) hx hb d_M_carryOut_10 (by decide) (fun c_10 => ?_) (fun c_10 => ?_)
  · have e_10 := b2_z c_10
    refine lv_aload_n hx hb d_M_carryOut_16 rfl (lv_at hl 1 rfl) ?_
    refine MV.callV (wr := [(pd, .inl (ca 0, 80, .inl P))]) S (c_M_know l D ca  o sa ba [.ref sl, .ref sv, .ref pd, .int (nI pl), .int (nI ((mg P pl (pl + 1) 0).1.1)), .int (b2 (mg P pl (pl + 1) 0).1.2), .int ((mg P pl (pl + 1) 0).2.1), .int ((mg P pl (pl + 1) 0).2.2.1), .int ((mg P pl (pl + 1) 0).2.2.2.1), .int ((mg P pl (pl + 1) 0).2.2.2.2)] g B kn (by omega)) k_M_82 hP hD hS hA hK [0, 2, 3] [1] rfl rfl (by decide) (by decide) (by decide) 0 (ci := 4) (fs := [.ref sa, .ref ba, .int (nI kn), .ref sl, .ref sv, .ref pd, .int (nI pl), .int (nI ((mg P pl (pl + 1) 0).1.1)), .int (b2 (mg P pl (pl + 1) 0).1.2), .int ((mg P pl (pl + 1) 0).2.1), .int ((mg P pl (pl + 1) 0).2.2.1), .int ((mg P pl (pl + 1) 0).2.2.2.1), .int ((mg P pl (pl + 1) 0).2.2.2.2)]) rfl rfl rfl rfl hl.1 ⟨Nat.le_of_ble_eq_true rfl, Nat.le_of_ble_eq_true rfl⟩ ⟨Nat.zero_le _, Nat.zero_le _⟩ (Nat.le_of_ble_eq_true rfl) d_M_carryOut_17 (fun H locs hP hD hS => ?_)
    have hP : va_P D classes [(o, .inr (4, [.ref sa, .ref ba, .int (nI (knn kn)), .ref sl, .ref sv, .ref pd, .int (nI pl), .int (nI ((mg P pl (pl + 1) 0).1.1)), .int (b2 (mg P pl (pl + 1) 0).1.2), .int ((mg P pl (pl + 1) 0).2.1), .int ((mg P pl (pl + 1) 0).2.2.1), .int ((mg P pl (pl + 1) 0).2.2.2.1), .int ((mg P pl (pl + 1) 0).2.2.2.2)])), (pd, .inl (ca 0, 80, .inl P)), (sa, .inl (ca 0, 170, .inl g)), (ba, .inl (ca 0, 1020, .inl (knB g B kn)))] H := hP.sub [1, 0, 2, 3] rfl
    have hD : va_D A [(o, .inr (4, [.ref sa, .ref ba, .int (nI (knn kn)), .ref sl, .ref sv, .ref pd, .int (nI pl), .int (nI ((mg P pl (pl + 1) 0).1.1)), .int (b2 (mg P pl (pl + 1) 0).1.2), .int ((mg P pl (pl + 1) 0).2.1), .int ((mg P pl (pl + 1) 0).2.2.1), .int ((mg P pl (pl + 1) 0).2.2.2.1), .int ((mg P pl (pl + 1) 0).2.2.2.2)])), (pd, .inl (ca 0, 80, .inl P)), (sa, .inl (ca 0, 170, .inl g)), (ba, .inl (ca 0, 1020, .inl (knB g B kn)))] := hD.sub [1, 0, 2, 3] (by decide) rfl
    refine lv_aload_n hx hb d_M_carryOut_20 rfl (lv_at hl 1 rfl) ?_
    refine lv_iconst (v := 1) hx hb d_M_carryOut_21 (by decide) ?_
    refine MI.callV (wr := [(ba, .inl (ca 0, 1020, .inl (knB g B kn)))]) S (c_M_go1 l D ca  o sa ba sl sv pd P g (knn kn) pl ((mg P pl (pl + 1) 0).1.1) ((mg P pl (pl + 1) 0).1.2) ((mg P pl (pl + 1) 0).2.1) ((mg P pl (pl + 1) 0).2.2.1) ((mg P pl (pl + 1) 0).2.2.2.1) ((mg P pl (pl + 1) 0).2.2.2.2) (by omega) hB) k_M_158 hP hD hS hA hK [0, 1, 2] [3] rfl rfl (by decide) (by decide) (by decide) 0 (ci := 4) (fs := [.ref sa, .ref ba, .int (nI (knn kn)), .ref sl, .ref sv, .ref pd, .int (nI pl), .int (nI ((mg P pl (pl + 1) 0).1.1)), .int (b2 (mg P pl (pl + 1) 0).1.2), .int ((mg P pl (pl + 1) 0).2.1), .int ((mg P pl (pl + 1) 0).2.2.1), .int ((mg P pl (pl + 1) 0).2.2.2.1), .int ((mg P pl (pl + 1) 0).2.2.2.2)]) rfl rfl rfl rfl hl.1 ⟨Nat.le_of_ble_eq_true rfl, Nat.le_of_ble_eq_true rfl⟩ ⟨Nat.zero_le _, Nat.zero_le _⟩ (Nat.le_of_ble_eq_true rfl) d_M_carryOut_22 (fun H locs hP hD hS => ?_)
    have hP : va_P D classes [(o, .inr (4, [.ref sa, .ref ba, .int (nI (knn kn)), .ref sl, .ref sv, .ref pd, .int (nI pl), .int (nI ((mh P pl (pl + 1) 0 0 g).2.1.1)), .int (b2 (mh P pl (pl + 1) 0 0 g).2.1.2), .int ((mh P pl (pl + 1) 0 0 g).2.2.1), .int ((mh P pl (pl + 1) 0 0 g).2.2.2.1), .int ((mh P pl (pl + 1) 0 0 g).2.2.2.2.1), .int ((mh P pl (pl + 1) 0 0 g).2.2.2.2.2)])), (pd, .inl (ca 0, 80, .inl P)), (sa, .inl (ca 0, 170, .inl ((mh P pl (pl + 1) 0 0 g).1.2))), (ba, .inl (ca 0, 1020, .inl (knB g B kn)))] H := hP.sub [1, 2, 3, 0] rfl
    have hD : va_D A [(o, .inr (4, [.ref sa, .ref ba, .int (nI (knn kn)), .ref sl, .ref sv, .ref pd, .int (nI pl), .int (nI ((mh P pl (pl + 1) 0 0 g).2.1.1)), .int (b2 (mh P pl (pl + 1) 0 0 g).2.1.2), .int ((mh P pl (pl + 1) 0 0 g).2.2.1), .int ((mh P pl (pl + 1) 0 0 g).2.2.2.1), .int ((mh P pl (pl + 1) 0 0 g).2.2.2.2.1), .int ((mh P pl (pl + 1) 0 0 g).2.2.2.2.2)])), (pd, .inl (ca 0, 80, .inl P)), (sa, .inl (ca 0, 170, .inl ((mh P pl (pl + 1) 0 0 g).1.2))), (ba, .inl (ca 0, 1020, .inl (knB g B kn)))] := hD.sub [1, 2, 3, 0] (by decide) rfl
    refine lv_istore_n (lv' := [(2, .int (nI (mh P pl (pl + 1) 0 0 g).1.1)), (1, .int 0), (0, .ref o)]) hx hb d_M_carryOut_25 rfl hl (by decide) rfl (fun ls hl => ?_)
    refine lv_aload_n hx hb d_M_carryOut_26 rfl (lv_at hl 2 rfl) ?_
    refine lv_iconst (v := 0) hx hb d_M_carryOut_27 (by decide) ?_
    refine f_put S cls_M hK hP hD hS 0 rfl 6 (by decide) fl_M_padLength rfl rfl (rfl) (rfl) (Nat.le_of_ble_eq_true rfl) d_M_carryOut_28 (fun H locs hP hD hS => ?_)
    have hP : va_P D classes [(o, .inr (4, [.ref sa, .ref ba, .int (nI (knn kn)), .ref sl, .ref sv, .ref pd, .int 0, .int (nI ((mh P pl (pl + 1) 0 0 g).2.1.1)), .int (b2 (mh P pl (pl + 1) 0 0 g).2.1.2), .int ((mh P pl (pl + 1) 0 0 g).2.2.1), .int ((mh P pl (pl + 1) 0 0 g).2.2.2.1), .int ((mh P pl (pl + 1) 0 0 g).2.2.2.2.1), .int ((mh P pl (pl + 1) 0 0 g).2.2.2.2.2)])), (pd, .inl (ca 0, 80, .inl P)), (sa, .inl (ca 0, 170, .inl ((mh P pl (pl + 1) 0 0 g).1.2))), (ba, .inl (ca 0, 1020, .inl (knB g B kn)))] H := hP
    have hD : va_D A [(o, .inr (4, [.ref sa, .ref ba, .int (nI (knn kn)), .ref sl, .ref sv, .ref pd, .int 0, .int (nI ((mh P pl (pl + 1) 0 0 g).2.1.1)), .int (b2 (mh P pl (pl + 1) 0 0 g).2.1.2), .int ((mh P pl (pl + 1) 0 0 g).2.2.1), .int ((mh P pl (pl + 1) 0 0 g).2.2.2.1), .int ((mh P pl (pl + 1) 0 0 g).2.2.2.2.1), .int ((mh P pl (pl + 1) 0 0 g).2.2.2.2.2)])), (pd, .inl (ca 0, 80, .inl P)), (sa, .inl (ca 0, 170, .inl ((mh P pl (pl + 1) 0 0 g).1.2))), (ba, .inl (ca 0, 1020, .inl (knB g B kn)))] := hD
    refine lv_iload_n hx hb d_M_carryOut_31 rfl (lv_at hl 0 rfl) ?_
    exact hret _ _ _ _ _ _ d_M_carryOut_32 rfl (by first | (simp only [m_car, mz, Bool.false_eq_true, e_10, ↓reduceIte]; done) | (simp only [m_car, mz, Bool.false_eq_true, e_10, ↓reduceIte]; rfl) | rfl) (by first | (simp only [m_car, mz, Bool.false_eq_true, e_10, ↓reduceIte]; done) | (simp only [m_car, mz, Bool.false_eq_true, e_10, ↓reduceIte]; rfl) | rfl) hP hD hS
  · have e_10 := b2_n c_10
    refine lv_bipush (v := (-3)) hx hb d_M_carryOut_13 (by decide) ?_
    exact hret _ _ _ _ _ _ d_M_carryOut_15 rfl (by first | (simp only [m_car, mz, Bool.false_eq_true, e_10, ↓reduceIte]; done) | (simp only [m_car, mz, Bool.false_eq_true, e_10, ↓reduceIte]; rfl) | rfl) (by first | (simp only [m_car, mz, Bool.false_eq_true, e_10, ↓reduceIte]; done) | (simp only [m_car, mz, Bool.false_eq_true, e_10, ↓reduceIte]; rfl) | rfl) hP hD hS
