/-! The class's own history: bundles of a Tape's six addresses, and what they hold -/
def pq (q : Nat → Nat → Nat) : Nat → Option Nat := fun j => some (q j 0)
theorem pq_up (q : Nat → Nat → Nat) (k : Nat) (v : Nat → Nat) : va_up (pq q) k (some (v 0)) = pq (va_up q k v) := funext fun j => by
  unfold va_up pq
  by_cases h : j = k
  · subst h; simp
  · simp [h]
def rot {α : Type} (f : Nat → α) : Nat → α := fun j => if j < 5 then f (j + 1) else if j = 5 then f 0 else f j
theorem pq_rot (q : Nat → Nat → Nat) : va_up (va_up (va_up (va_up (va_up (va_up (pq q) 0 (some (q 1 0))) 1 (some (q 2 0))) 2 (some (q 3 0))) 3 (some (q 4 0))) 4 (some (q 5 0))) 5 (some (q 0 0)) = pq (rot q) := funext fun j => by
  unfold va_up pq rot
  rcases (show j = 0 ∨ j = 1 ∨ j = 2 ∨ j = 3 ∨ j = 4 ∨ j = 5 ∨ 5 < j by omega) with rfl | rfl | rfl | rfl | rfl | rfl | h
  · rfl
  · rfl
  · rfl
  · rfl
  · rfl
  · rfl
  · rw [if_neg (by omega), if_neg (by omega), if_neg (by omega), if_neg (by omega), if_neg (by omega), if_neg (by omega), if_neg (by omega), if_neg (by omega)]
abbrev cH : Type := (Nat → Nat → Nat) × (Nat → Nat → Int32) × (Nat → Nat) × (Nat → Int32) × Nat
def rcd (a : Int32) (K : cH) : cH := if 0 ≤ a then (if K.2.2.2.2 < 6 then (va_up K.1 K.2.2.2.2 K.2.2.1, va_up K.2.1 K.2.2.2.2 K.2.2.2.1, K.1 K.2.2.2.2, K.2.1 K.2.2.2.2, K.2.2.2.2 + 1) else (va_up (rot K.1) 5 K.2.2.1, va_up (rot K.2.1) 5 K.2.2.2.1, rot K.1 5, rot K.2.1 5, 6)) else K
theorem BN_srv {g : Nat → Int32} {f b w : Nat} (h : BN g) : BN (s_rv g f b w).2 := BN_up (by omega) (BN_up (by omega) (BN_tv (BN_tv h)))
theorem BN_swr {g : Nat → Int32} {f : Nat} {d u : Int32} (hf : f < 2) (h : BN g) (hlt : bn g f < 20) : BN (s_wr g f (bn g f) d u) := by
  unfold s_wr
  exact BN_tv (BN_set hf (by omega) (BN_up (by omega) (BN_up (by omega) (BN_up (by omega) (BN_up (by omega) (BN_tv h))))))
theorem BN_sadd {g : Nat → Int32} {x d u : Int32} (hB : BN g) : BN (s_add g x d u).2 := by
  unfold s_add
  split
  · exact hB
  · rename_i h1
    obtain ⟨f, hf, rfl⟩ := isf_of h1
    have hn := (hB f hf).2
    rw [nI_clamp (by omega)]
    split
    · exact hB
    · split
      · exact hB
      · split
        · exact hB
        · split
          · split
            · rename_i h5
              have h6 := nlt_lt (a := bn g f) (b := 20) (by omega) (by omega) h5
              split
              · exact BN_swr hf hB h6
              · exact hB
            · exact hB
          · exact hB
theorem BN_scut {g : Nat → Int32} {x y : Int32} (hB : BN g) : BN (s_cut g x y).2 := by
  unfold s_cut
  split
  · exact hB
  · rename_i h1
    obtain ⟨f, hf, rfl⟩ := isf_of h1
    have hn := (hB f hf).2
    rw [nI_clamp (by omega)]
    split
    · rename_i h2
      split
      · rename_i h3
        obtain ⟨n, hn2, rfl⟩ := nI_of (Int32.not_lt.mpr h2)
        have h4 := le_of_nI (by omega) hn2 h3
        exact BN_set hf (by omega) hB
      · exact hB
    · exact hB
theorem BN_srd {g : Nat → Int32} {x y z : Int32} (hB : BN g) : BN (s_rd g x y z).2 := by
  unfold s_rd
  split
  · exact hB
  · split
    · exact BN_srv hB
    · split
      · exact BN_srv hB
      · exact hB
theorem BN_smov {g : Nat → Int32} {x : Int32} (hB : BN g) : BN (s_mov g x).2 := by
  unfold s_mov
  split
  · exact hB
  · split
    · exact BN_tv hB
    · exact hB
theorem BN_srew {g : Nat → Int32} (hB : BN g) : BN (s_rew g).2 := by
  unfold s_rew
  split
  · exact BN_tv hB
  · exact BN_tv hB
theorem BN_cdo {g : Nat → Int32} {F : cF} (hB : BN g) : BN (cdo g F).2 := by
  unfold cdo
  split
  · exact BN_sadd hB
  · split
    · exact BN_srd hB
    · split
      · exact BN_scut hB
      · split
        · exact BN_smov hB
        · split
          · exact BN_srew hB
          · exact hB
/-- the orders of a text, one after the other, by the class -/
def cko (P : Nat → Int32) (n : Nat) : Nat → Nat × Bool → cF → Nat → (Nat → Int32) → (Nat × (Nat → Int32)) × (Nat × Bool) × cF
  | 0, z, F, k, g => ((k, g), z, F)
  | r + 1, z, F, k, g =>
    if z.2 = true then ((k, g), z, F) else if z.1 < n then
      (if 0 ≤ (cdo g (rnx P n z.1 F).2).1 then cko P n r (rnx P n z.1 F).1 (rnx P n z.1 F).2 (k + 1) (cdo g (rnx P n z.1 F).2).2
       else ((k, (cdo g (rnx P n z.1 F).2).2), rnx P n z.1 F))
    else ((k, g), z, F)
set_option maxHeartbeats 4000000 in
set_option maxRecDepth 100000 in
theorem c_E_dropOldest (l : Launch) (D : va_G) (ca : Nat → ClassId) (e_ pa sl sv po ro : Nat) (tT tB : Nat → Nat) (q : Nat → Nat → Nat) (h : Nat → Nat → Int32) (gB : Nat → Int32)  : MV l y_E_dropOldest b_E_dropOldest 3 0 0 D ca [.ref e_] (List.flatten [[(e_, .inr (0, [.ref pa, .ref sl, .ref sv, .ref po, .ref ro, .ref (tT 0), .ref (tB 0), .int (nI 6)]))], [(pa, .inl (ca 3, 6, .inr (.inr (.inr (.inr (pq q))))))], tw ca tB gB, tw ca (q 0) (h 0), tw ca (q 1) (h 1), tw ca (q 2) (h 2), tw ca (q 3) (h 3), tw ca (q 4) (h 4), tw ca (q 5) (h 5)]) (List.flatten [[(e_, .inr (0, [.ref pa, .ref sl, .ref sv, .ref po, .ref ro, .ref (tT 0), .ref (tB 0), .int (nI 5)]))], [(pa, .inl (ca 3, 6, .inr (.inr (.inr (.inr (pq (rot q)))))))], tw ca tB gB, tw ca (q 0) (h 0), tw ca (q 1) (h 1), tw ca (q 2) (h 2), tw ca (q 3) (h 3), tw ca (q 4) (h 4), tw ca (q 5) (h 5)]) := by
  refine MV.mk rfl (Nat.le_of_ble_eq_true rfl) ?_
  intro p e s m args below meth c Q A S hA hP hD hK
  obtain ⟨hx, hb, hml, hown, hts⟩ := id S
  intro hret ls hl0 hS
  have hl : lv_has ls 3 [(0, .ref e_)] := hl0
  refine lv_aload_n hx hb d_E_dropOldest_0 rfl (lv_at hl 0 rfl) ?_
  refine f_get S cls_E hK hP 0 rfl 0 (by decide) fl_E_past rfl rfl d_E_dropOldest_1 ?_
  refine lv_iconst (v := 0) hx hb d_E_dropOldest_4 (by decide) ?_
  refine A_qld S hK hP 1 rfl (r := 0) (by omega) (by decide) rfl (z := q 0 0) (rfl) d_E_dropOldest_5 ?_
  refine lv_astore_n (lv' := [(1, .ref (q 0 0)), (0, .ref e_)]) hx hb d_E_dropOldest_6 rfl hl (by decide) rfl (fun ls hl => ?_)
  refine lv_iconst (v := 1) hx hb d_E_dropOldest_7 (by decide) ?_
  refine lv_istore_n (lv' := [(2, .int 1), (1, .ref (q 0 0)), (0, .ref e_)]) hx hb d_E_dropOldest_8 rfl hl (by decide) rfl (fun ls hl => ?_)
  refine lv_iload_n hx hb d_E_dropOldest_9 rfl (lv_at hl 0 rfl) ?_
  refine lv_bipush (v := 6) hx hb d_E_dropOldest_10 (by decide) ?_
  refine lv_icmp_ge (tgt := 35) hx hb d_E_dropOldest_12 (by decide) (fun q => absurd q (by decide)) (fun _ => ?_)
  refine lv_aload_n hx hb d_E_dropOldest_15 rfl (lv_at hl 2 rfl) ?_
  refine f_get S cls_E hK hP 0 rfl 0 (by decide) fl_E_past rfl rfl d_E_dropOldest_16 ?_
  refine lv_iload_n hx hb d_E_dropOldest_19 rfl (lv_at hl 0 rfl) ?_
  refine lv_iconst (v := 1) hx hb d_E_dropOldest_20 (by decide) ?_
  refine lv_isub hx hb d_E_dropOldest_21 ?_
  refine lv_tope (z := 0) (by decide) ?_
  refine lv_aload_n hx hb d_E_dropOldest_22 rfl (lv_at hl 2 rfl) ?_
  refine f_get S cls_E hK hP 0 rfl 0 (by decide) fl_E_past rfl rfl d_E_dropOldest_23 ?_
  refine lv_iload_n hx hb d_E_dropOldest_26 rfl (lv_at hl 0 rfl) ?_
  refine A_qld S hK hP 1 rfl (r := 1) (by omega) (by decide) rfl (z := q 1 0) (rfl) d_E_dropOldest_27 ?_
  refine A_qst S hK hP hD hS 1 14 rfl rfl (r := 0) (by omega) (by decide) rfl d_E_dropOldest_28 (fun H locs hP hD hS => ?_)
  have hP : va_P D classes (List.flatten [[(e_, .inr (0, [.ref pa, .ref sl, .ref sv, .ref po, .ref ro, .ref (tT 0), .ref (tB 0), .int (nI 6)]))], [(pa, .inl (ca 3, 6, .inr (.inr (.inr (.inr (va_up (pq q) 0 (some (q 1 0))))))))], tw ca tB gB, tw ca (q 0) (h 0), tw ca (q 1) (h 1), tw ca (q 2) (h 2), tw ca (q 3) (h 3), tw ca (q 4) (h 4), tw ca (q 5) (h 5)]) H := hP
  have hD : va_D A (List.flatten [[(e_, .inr (0, [.ref pa, .ref sl, .ref sv, .ref po, .ref ro, .ref (tT 0), .ref (tB 0), .int (nI 6)]))], [(pa, .inl (ca 3, 6, .inr (.inr (.inr (.inr (va_up (pq q) 0 (some (q 1 0))))))))], tw ca tB gB, tw ca (q 0) (h 0), tw ca (q 1) (h 1), tw ca (q 2) (h 2), tw ca (q 3) (h 3), tw ca (q 4) (h 4), tw ca (q 5) (h 5)]) := hD
  refine lv_iinc (v := 2) (lv' := [(2, .int 2), (1, .ref (q 0 0)), (0, .ref e_)]) hx hb d_E_dropOldest_29 hl (k := 0) rfl (by decide) (by decide) rfl (fun ls hl => ?_)
  refine lv_goto (tgt := 9) hx hb d_E_dropOldest_32 (by decide) ?_
  refine lv_iload_n hx hb d_E_dropOldest_9 rfl (lv_at hl 0 rfl) ?_
  refine lv_bipush (v := 6) hx hb d_E_dropOldest_10 (by decide) ?_
  refine lv_icmp_ge (tgt := 35) hx hb d_E_dropOldest_12 (by decide) (fun q => absurd q (by decide)) (fun _ => ?_)
  refine lv_aload_n hx hb d_E_dropOldest_15 rfl (lv_at hl 2 rfl) ?_
  refine f_get S cls_E hK hP 0 rfl 0 (by decide) fl_E_past rfl rfl d_E_dropOldest_16 ?_
  refine lv_iload_n hx hb d_E_dropOldest_19 rfl (lv_at hl 0 rfl) ?_
  refine lv_iconst (v := 1) hx hb d_E_dropOldest_20 (by decide) ?_
  refine lv_isub hx hb d_E_dropOldest_21 ?_
  refine lv_tope (z := 1) (by decide) ?_
  refine lv_aload_n hx hb d_E_dropOldest_22 rfl (lv_at hl 2 rfl) ?_
  refine f_get S cls_E hK hP 0 rfl 0 (by decide) fl_E_past rfl rfl d_E_dropOldest_23 ?_
  refine lv_iload_n hx hb d_E_dropOldest_26 rfl (lv_at hl 0 rfl) ?_
  refine A_qld S hK hP 1 rfl (r := 2) (by omega) (by decide) rfl (z := q 2 0) (rfl) d_E_dropOldest_27 ?_
  refine A_qst S hK hP hD hS 1 20 rfl rfl (r := 1) (by omega) (by decide) rfl d_E_dropOldest_28 (fun H locs hP hD hS => ?_)
  have hP : va_P D classes (List.flatten [[(e_, .inr (0, [.ref pa, .ref sl, .ref sv, .ref po, .ref ro, .ref (tT 0), .ref (tB 0), .int (nI 6)]))], [(pa, .inl (ca 3, 6, .inr (.inr (.inr (.inr (va_up (va_up (pq q) 0 (some (q 1 0))) 1 (some (q 2 0))))))))], tw ca tB gB, tw ca (q 0) (h 0), tw ca (q 1) (h 1), tw ca (q 2) (h 2), tw ca (q 3) (h 3), tw ca (q 4) (h 4), tw ca (q 5) (h 5)]) H := hP
  have hD : va_D A (List.flatten [[(e_, .inr (0, [.ref pa, .ref sl, .ref sv, .ref po, .ref ro, .ref (tT 0), .ref (tB 0), .int (nI 6)]))], [(pa, .inl (ca 3, 6, .inr (.inr (.inr (.inr (va_up (va_up (pq q) 0 (some (q 1 0))) 1 (some (q 2 0))))))))], tw ca tB gB, tw ca (q 0) (h 0), tw ca (q 1) (h 1), tw ca (q 2) (h 2), tw ca (q 3) (h 3), tw ca (q 4) (h 4), tw ca (q 5) (h 5)]) := hD
  refine lv_iinc (v := 3) (lv' := [(2, .int 3), (1, .ref (q 0 0)), (0, .ref e_)]) hx hb d_E_dropOldest_29 hl (k := 0) rfl (by decide) (by decide) rfl (fun ls hl => ?_)
  refine lv_goto (tgt := 9) hx hb d_E_dropOldest_32 (by decide) ?_
  refine lv_iload_n hx hb d_E_dropOldest_9 rfl (lv_at hl 0 rfl) ?_
  refine lv_bipush (v := 6) hx hb d_E_dropOldest_10 (by decide) ?_
  refine lv_icmp_ge (tgt := 35) hx hb d_E_dropOldest_12 (by decide) (fun q => absurd q (by decide)) (fun _ => ?_)
  refine lv_aload_n hx hb d_E_dropOldest_15 rfl (lv_at hl 2 rfl) ?_
  refine f_get S cls_E hK hP 0 rfl 0 (by decide) fl_E_past rfl rfl d_E_dropOldest_16 ?_
  refine lv_iload_n hx hb d_E_dropOldest_19 rfl (lv_at hl 0 rfl) ?_
  refine lv_iconst (v := 1) hx hb d_E_dropOldest_20 (by decide) ?_
  refine lv_isub hx hb d_E_dropOldest_21 ?_
  refine lv_tope (z := 2) (by decide) ?_
  refine lv_aload_n hx hb d_E_dropOldest_22 rfl (lv_at hl 2 rfl) ?_
  refine f_get S cls_E hK hP 0 rfl 0 (by decide) fl_E_past rfl rfl d_E_dropOldest_23 ?_
  refine lv_iload_n hx hb d_E_dropOldest_26 rfl (lv_at hl 0 rfl) ?_
  refine A_qld S hK hP 1 rfl (r := 3) (by omega) (by decide) rfl (z := q 3 0) (rfl) d_E_dropOldest_27 ?_
  refine A_qst S hK hP hD hS 1 26 rfl rfl (r := 2) (by omega) (by decide) rfl d_E_dropOldest_28 (fun H locs hP hD hS => ?_)
  have hP : va_P D classes (List.flatten [[(e_, .inr (0, [.ref pa, .ref sl, .ref sv, .ref po, .ref ro, .ref (tT 0), .ref (tB 0), .int (nI 6)]))], [(pa, .inl (ca 3, 6, .inr (.inr (.inr (.inr (va_up (va_up (va_up (pq q) 0 (some (q 1 0))) 1 (some (q 2 0))) 2 (some (q 3 0))))))))], tw ca tB gB, tw ca (q 0) (h 0), tw ca (q 1) (h 1), tw ca (q 2) (h 2), tw ca (q 3) (h 3), tw ca (q 4) (h 4), tw ca (q 5) (h 5)]) H := hP
  have hD : va_D A (List.flatten [[(e_, .inr (0, [.ref pa, .ref sl, .ref sv, .ref po, .ref ro, .ref (tT 0), .ref (tB 0), .int (nI 6)]))], [(pa, .inl (ca 3, 6, .inr (.inr (.inr (.inr (va_up (va_up (va_up (pq q) 0 (some (q 1 0))) 1 (some (q 2 0))) 2 (some (q 3 0))))))))], tw ca tB gB, tw ca (q 0) (h 0), tw ca (q 1) (h 1), tw ca (q 2) (h 2), tw ca (q 3) (h 3), tw ca (q 4) (h 4), tw ca (q 5) (h 5)]) := hD
  refine lv_iinc (v := 4) (lv' := [(2, .int 4), (1, .ref (q 0 0)), (0, .ref e_)]) hx hb d_E_dropOldest_29 hl (k := 0) rfl (by decide) (by decide) rfl (fun ls hl => ?_)
  refine lv_goto (tgt := 9) hx hb d_E_dropOldest_32 (by decide) ?_
  refine lv_iload_n hx hb d_E_dropOldest_9 rfl (lv_at hl 0 rfl) ?_
  refine lv_bipush (v := 6) hx hb d_E_dropOldest_10 (by decide) ?_
  refine lv_icmp_ge (tgt := 35) hx hb d_E_dropOldest_12 (by decide) (fun q => absurd q (by decide)) (fun _ => ?_)
  refine lv_aload_n hx hb d_E_dropOldest_15 rfl (lv_at hl 2 rfl) ?_
  refine f_get S cls_E hK hP 0 rfl 0 (by decide) fl_E_past rfl rfl d_E_dropOldest_16 ?_
  refine lv_iload_n hx hb d_E_dropOldest_19 rfl (lv_at hl 0 rfl) ?_
  refine lv_iconst (v := 1) hx hb d_E_dropOldest_20 (by decide) ?_
  refine lv_isub hx hb d_E_dropOldest_21 ?_
  refine lv_tope (z := 3) (by decide) ?_
  refine lv_aload_n hx hb d_E_dropOldest_22 rfl (lv_at hl 2 rfl) ?_
  refine f_get S cls_E hK hP 0 rfl 0 (by decide) fl_E_past rfl rfl d_E_dropOldest_23 ?_
  refine lv_iload_n hx hb d_E_dropOldest_26 rfl (lv_at hl 0 rfl) ?_
  refine A_qld S hK hP 1 rfl (r := 4) (by omega) (by decide) rfl (z := q 4 0) (rfl) d_E_dropOldest_27 ?_
  refine A_qst S hK hP hD hS 1 32 rfl rfl (r := 3) (by omega) (by decide) rfl d_E_dropOldest_28 (fun H locs hP hD hS => ?_)
  have hP : va_P D classes (List.flatten [[(e_, .inr (0, [.ref pa, .ref sl, .ref sv, .ref po, .ref ro, .ref (tT 0), .ref (tB 0), .int (nI 6)]))], [(pa, .inl (ca 3, 6, .inr (.inr (.inr (.inr (va_up (va_up (va_up (va_up (pq q) 0 (some (q 1 0))) 1 (some (q 2 0))) 2 (some (q 3 0))) 3 (some (q 4 0))))))))], tw ca tB gB, tw ca (q 0) (h 0), tw ca (q 1) (h 1), tw ca (q 2) (h 2), tw ca (q 3) (h 3), tw ca (q 4) (h 4), tw ca (q 5) (h 5)]) H := hP
  have hD : va_D A (List.flatten [[(e_, .inr (0, [.ref pa, .ref sl, .ref sv, .ref po, .ref ro, .ref (tT 0), .ref (tB 0), .int (nI 6)]))], [(pa, .inl (ca 3, 6, .inr (.inr (.inr (.inr (va_up (va_up (va_up (va_up (pq q) 0 (some (q 1 0))) 1 (some (q 2 0))) 2 (some (q 3 0))) 3 (some (q 4 0))))))))], tw ca tB gB, tw ca (q 0) (h 0), tw ca (q 1) (h 1), tw ca (q 2) (h 2), tw ca (q 3) (h 3), tw ca (q 4) (h 4), tw ca (q 5) (h 5)]) := hD
  refine lv_iinc (v := 5) (lv' := [(2, .int 5), (1, .ref (q 0 0)), (0, .ref e_)]) hx hb d_E_dropOldest_29 hl (k := 0) rfl (by decide) (by decide) rfl (fun ls hl => ?_)
  refine lv_goto (tgt := 9) hx hb d_E_dropOldest_32 (by decide) ?_
  refine lv_iload_n hx hb d_E_dropOldest_9 rfl (lv_at hl 0 rfl) ?_
  refine lv_bipush (v := 6) hx hb d_E_dropOldest_10 (by decide) ?_
  refine lv_icmp_ge (tgt := 35) hx hb d_E_dropOldest_12 (by decide) (fun q => absurd q (by decide)) (fun _ => ?_)
  refine lv_aload_n hx hb d_E_dropOldest_15 rfl (lv_at hl 2 rfl) ?_
  refine f_get S cls_E hK hP 0 rfl 0 (by decide) fl_E_past rfl rfl d_E_dropOldest_16 ?_
  refine lv_iload_n hx hb d_E_dropOldest_19 rfl (lv_at hl 0 rfl) ?_
  refine lv_iconst (v := 1) hx hb d_E_dropOldest_20 (by decide) ?_
  refine lv_isub hx hb d_E_dropOldest_21 ?_
  refine lv_tope (z := 4) (by decide) ?_
  refine lv_aload_n hx hb d_E_dropOldest_22 rfl (lv_at hl 2 rfl) ?_
  refine f_get S cls_E hK hP 0 rfl 0 (by decide) fl_E_past rfl rfl d_E_dropOldest_23 ?_
  refine lv_iload_n hx hb d_E_dropOldest_26 rfl (lv_at hl 0 rfl) ?_
  refine A_qld S hK hP 1 rfl (r := 5) (by omega) (by decide) rfl (z := q 5 0) (rfl) d_E_dropOldest_27 ?_
  refine A_qst S hK hP hD hS 1 38 rfl rfl (r := 4) (by omega) (by decide) rfl d_E_dropOldest_28 (fun H locs hP hD hS => ?_)
  have hP : va_P D classes (List.flatten [[(e_, .inr (0, [.ref pa, .ref sl, .ref sv, .ref po, .ref ro, .ref (tT 0), .ref (tB 0), .int (nI 6)]))], [(pa, .inl (ca 3, 6, .inr (.inr (.inr (.inr (va_up (va_up (va_up (va_up (va_up (pq q) 0 (some (q 1 0))) 1 (some (q 2 0))) 2 (some (q 3 0))) 3 (some (q 4 0))) 4 (some (q 5 0))))))))], tw ca tB gB, tw ca (q 0) (h 0), tw ca (q 1) (h 1), tw ca (q 2) (h 2), tw ca (q 3) (h 3), tw ca (q 4) (h 4), tw ca (q 5) (h 5)]) H := hP
  have hD : va_D A (List.flatten [[(e_, .inr (0, [.ref pa, .ref sl, .ref sv, .ref po, .ref ro, .ref (tT 0), .ref (tB 0), .int (nI 6)]))], [(pa, .inl (ca 3, 6, .inr (.inr (.inr (.inr (va_up (va_up (va_up (va_up (va_up (pq q) 0 (some (q 1 0))) 1 (some (q 2 0))) 2 (some (q 3 0))) 3 (some (q 4 0))) 4 (some (q 5 0))))))))], tw ca tB gB, tw ca (q 0) (h 0), tw ca (q 1) (h 1), tw ca (q 2) (h 2), tw ca (q 3) (h 3), tw ca (q 4) (h 4), tw ca (q 5) (h 5)]) := hD
  refine lv_iinc (v := 6) (lv' := [(2, .int 6), (1, .ref (q 0 0)), (0, .ref e_)]) hx hb d_E_dropOldest_29 hl (k := 0) rfl (by decide) (by decide) rfl (fun ls hl => ?_)
  refine lv_goto (tgt := 9) hx hb d_E_dropOldest_32 (by decide) ?_
  refine lv_iload_n hx hb d_E_dropOldest_9 rfl (lv_at hl 0 rfl) ?_
  refine lv_bipush (v := 6) hx hb d_E_dropOldest_10 (by decide) ?_
  refine lv_icmp_ge (tgt := 35) hx hb d_E_dropOldest_12 (by decide) (fun _ => ?_) (fun q => absurd (by decide) q)
  refine lv_aload_n hx hb d_E_dropOldest_35 rfl (lv_at hl 2 rfl) ?_
  refine f_get S cls_E hK hP 0 rfl 0 (by decide) fl_E_past rfl rfl d_E_dropOldest_36 ?_
  refine lv_iconst (v := 5) hx hb d_E_dropOldest_39 (by decide) ?_
  refine lv_aload_n hx hb d_E_dropOldest_40 rfl (lv_at hl 1 rfl) ?_
  refine A_qst S hK hP hD hS 1 8 rfl rfl (r := 5) (by omega) (by decide) rfl d_E_dropOldest_41 (fun H locs hP hD hS => ?_)
  have hP : va_P D classes (List.flatten [[(e_, .inr (0, [.ref pa, .ref sl, .ref sv, .ref po, .ref ro, .ref (tT 0), .ref (tB 0), .int (nI 6)]))], [(pa, .inl (ca 3, 6, .inr (.inr (.inr (.inr (va_up (va_up (va_up (va_up (va_up (va_up (pq q) 0 (some (q 1 0))) 1 (some (q 2 0))) 2 (some (q 3 0))) 3 (some (q 4 0))) 4 (some (q 5 0))) 5 (some (q 0 0))))))))], tw ca tB gB, tw ca (q 0) (h 0), tw ca (q 1) (h 1), tw ca (q 2) (h 2), tw ca (q 3) (h 3), tw ca (q 4) (h 4), tw ca (q 5) (h 5)]) H := hP
  have hD : va_D A (List.flatten [[(e_, .inr (0, [.ref pa, .ref sl, .ref sv, .ref po, .ref ro, .ref (tT 0), .ref (tB 0), .int (nI 6)]))], [(pa, .inl (ca 3, 6, .inr (.inr (.inr (.inr (va_up (va_up (va_up (va_up (va_up (va_up (pq q) 0 (some (q 1 0))) 1 (some (q 2 0))) 2 (some (q 3 0))) 3 (some (q 4 0))) 4 (some (q 5 0))) 5 (some (q 0 0))))))))], tw ca tB gB, tw ca (q 0) (h 0), tw ca (q 1) (h 1), tw ca (q 2) (h 2), tw ca (q 3) (h 3), tw ca (q 4) (h 4), tw ca (q 5) (h 5)]) := hD
  refine lv_aload_n hx hb d_E_dropOldest_42 rfl (lv_at hl 2 rfl) ?_
  refine lv_iconst (v := 5) hx hb d_E_dropOldest_43 (by decide) ?_
  rw [pq_rot q] at hP hD
  have hP : va_P D classes (List.flatten [[(e_, .inr (0, [.ref pa, .ref sl, .ref sv, .ref po, .ref ro, .ref (tT 0), .ref (tB 0), .int (nI 6)]))], [(pa, .inl (ca 3, 6, .inr (.inr (.inr (.inr (pq (rot q)))))))], tw ca tB gB, tw ca (q 0) (h 0), tw ca (q 1) (h 1), tw ca (q 2) (h 2), tw ca (q 3) (h 3), tw ca (q 4) (h 4), tw ca (q 5) (h 5)]) H := hP
  have hD : va_D A (List.flatten [[(e_, .inr (0, [.ref pa, .ref sl, .ref sv, .ref po, .ref ro, .ref (tT 0), .ref (tB 0), .int (nI 6)]))], [(pa, .inl (ca 3, 6, .inr (.inr (.inr (.inr (pq (rot q)))))))], tw ca tB gB, tw ca (q 0) (h 0), tw ca (q 1) (h 1), tw ca (q 2) (h 2), tw ca (q 3) (h 3), tw ca (q 4) (h 4), tw ca (q 5) (h 5)]) := hD
  refine f_put S cls_E hK hP hD hS 0 rfl 7 (by decide) fl_E_pastCount rfl rfl (rfl) (rfl) (Nat.le_of_ble_eq_true rfl) d_E_dropOldest_44 (fun H locs hP hD hS => ?_)
  have hP : va_P D classes (List.flatten [[(e_, .inr (0, [.ref pa, .ref sl, .ref sv, .ref po, .ref ro, .ref (tT 0), .ref (tB 0), .int 5]))], [(pa, .inl (ca 3, 6, .inr (.inr (.inr (.inr (pq (rot q)))))))], tw ca tB gB, tw ca (q 0) (h 0), tw ca (q 1) (h 1), tw ca (q 2) (h 2), tw ca (q 3) (h 3), tw ca (q 4) (h 4), tw ca (q 5) (h 5)]) H := hP
  have hD : va_D A (List.flatten [[(e_, .inr (0, [.ref pa, .ref sl, .ref sv, .ref po, .ref ro, .ref (tT 0), .ref (tB 0), .int 5]))], [(pa, .inl (ca 3, 6, .inr (.inr (.inr (.inr (pq (rot q)))))))], tw ca tB gB, tw ca (q 0) (h 0), tw ca (q 1) (h 1), tw ca (q 2) (h 2), tw ca (q 3) (h 3), tw ca (q 4) (h 4), tw ca (q 5) (h 5)]) := hD
  exact hret _ _ _ _ _ d_E_dropOldest_47 (by first | (simp only [↓reduceIte]; done) | (simp only [↓reduceIte]; rfl) | rfl) hP hD hS
set_option maxHeartbeats 4000000 in
set_option maxRecDepth 100000 in
theorem c_E_recorded (l : Launch) (D : va_G) (ca : Nat → ClassId) (e_ pa sl sv po ro : Nat) (tT tB : Nat → Nat) (q : Nat → Nat → Nat) (h : Nat → Nat → Int32) (gB : Nat → Int32) (n : Nat) (a : Int32) (hn6 : n ≤ 6) : MI l y_E_recorded b_E_recorded 3 (some .int) 1 22 D ca [.ref e_, .int a] (List.flatten [[(e_, .inr (0, [.ref pa, .ref sl, .ref sv, .ref po, .ref ro, .ref (tT 0), .ref (tB 0), .int (nI n)]))], [(pa, .inl (ca 3, 6, .inr (.inr (.inr (.inr (pq q))))))], tw ca tB gB, tw ca (q 0) (h 0), tw ca (q 1) (h 1), tw ca (q 2) (h 2), tw ca (q 3) (h 3), tw ca (q 4) (h 4), tw ca (q 5) (h 5)]) a (List.flatten [[(e_, .inr (0, [.ref pa, .ref sl, .ref sv, .ref po, .ref ro, .ref (tT 0), .ref ((rcd a (q, h, tB, gB, n)).2.2.1 0), .int (nI ((rcd a (q, h, tB, gB, n)).2.2.2.2))]))], [(pa, .inl (ca 3, 6, .inr (.inr (.inr (.inr (pq (rcd a (q, h, tB, gB, n)).1))))))], tw ca ((rcd a (q, h, tB, gB, n)).2.2.1) ((rcd a (q, h, tB, gB, n)).2.2.2.1), tw ca ((rcd a (q, h, tB, gB, n)).1 0) ((rcd a (q, h, tB, gB, n)).2.1 0), tw ca ((rcd a (q, h, tB, gB, n)).1 1) ((rcd a (q, h, tB, gB, n)).2.1 1), tw ca ((rcd a (q, h, tB, gB, n)).1 2) ((rcd a (q, h, tB, gB, n)).2.1 2), tw ca ((rcd a (q, h, tB, gB, n)).1 3) ((rcd a (q, h, tB, gB, n)).2.1 3), tw ca ((rcd a (q, h, tB, gB, n)).1 4) ((rcd a (q, h, tB, gB, n)).2.1 4), tw ca ((rcd a (q, h, tB, gB, n)).1 5) ((rcd a (q, h, tB, gB, n)).2.1 5)]) := by
  refine MI.mk (ty := .int) rfl rfl (Nat.le_of_ble_eq_true rfl) ?_
  intro p e s m args below meth c Q A S hA hP hD hK
  obtain ⟨hx, hb, hml, hown, hts⟩ := id S
  intro hret ls hl0 hS
  have hl : lv_has ls 3 [(0, .ref e_), (1, .int a)] := hl0
  rcases (show n = 0 ∨ n = 1 ∨ n = 2 ∨ n = 3 ∨ n = 4 ∨ n = 5 ∨ n = 6 by omega) with rfl | rfl | rfl | rfl | rfl | rfl | rfl
  · refine lv_iload_n hx hb d_E_recorded_0 rfl (lv_at hl 1 rfl) ?_
    refine lv_if_ge (tgt := 6) hx hb d_E_recorded_1 (by decide) (fun c_1 => ?_) (fun c_1 => ?_)
    · refine lv_aload_n hx hb d_E_recorded_6 rfl (lv_at hl 0 rfl) ?_
      refine f_get S cls_E hK hP 0 rfl 7 (by decide) fl_E_pastCount rfl rfl d_E_recorded_7 ?_
      refine lv_bipush (v := 6) hx hb d_E_recorded_10 (by decide) ?_
      refine lv_icmp_lt (tgt := 19) hx hb d_E_recorded_12 (by decide) (fun _ => ?_) (fun q => absurd (by decide) q)
      refine lv_aload_n hx hb d_E_recorded_19 rfl (lv_at hl 0 rfl) ?_
      refine f_get S cls_E hK hP 0 rfl 0 (by decide) fl_E_past rfl rfl d_E_recorded_20 ?_
      refine lv_aload_n hx hb d_E_recorded_23 rfl (lv_at hl 0 rfl) ?_
      refine f_get S cls_E hK hP 0 rfl 7 (by decide) fl_E_pastCount rfl rfl d_E_recorded_24 ?_
      refine A_qld S hK hP 1 rfl (r := 0) (by omega) (by decide) rfl (z := q 0 0) (rfl) d_E_recorded_27 ?_
      refine lv_astore_n (lv' := [(2, .ref (q 0 0)), (0, .ref e_), (1, .int a)]) hx hb d_E_recorded_28 rfl hl (by decide) rfl (fun ls hl => ?_)
      refine lv_aload_n hx hb d_E_recorded_29 rfl (lv_at hl 1 rfl) ?_
      refine f_get S cls_E hK hP 0 rfl 0 (by decide) fl_E_past rfl rfl d_E_recorded_30 ?_
      refine lv_aload_n hx hb d_E_recorded_33 rfl (lv_at hl 1 rfl) ?_
      refine f_get S cls_E hK hP 0 rfl 7 (by decide) fl_E_pastCount rfl rfl d_E_recorded_34 ?_
      refine lv_aload_n hx hb d_E_recorded_37 rfl (lv_at hl 1 rfl) ?_
      refine f_get S cls_E hK hP 0 rfl 6 (by decide) fl_E_before rfl rfl d_E_recorded_38 ?_
      refine A_qst S hK hP hD hS 1 2 rfl rfl (r := 0) (by omega) (by decide) rfl d_E_recorded_41 (fun H locs hP hD hS => ?_)
      rw [show va_up (pq q) 0 (some (tB 0)) = pq (va_up q 0 tB) from pq_up q 0 tB] at hP hD
      have hP : va_P D classes (List.flatten [[(e_, .inr (0, [.ref pa, .ref sl, .ref sv, .ref po, .ref ro, .ref (tT 0), .ref (tB 0), .int (nI 0)]))], [(pa, .inl (ca 3, 6, .inr (.inr (.inr (.inr (pq (va_up q 0 tB)))))))], tw ca tB gB, tw ca (q 0) (h 0), tw ca (q 1) (h 1), tw ca (q 2) (h 2), tw ca (q 3) (h 3), tw ca (q 4) (h 4), tw ca (q 5) (h 5)]) H := hP
      have hD : va_D A (List.flatten [[(e_, .inr (0, [.ref pa, .ref sl, .ref sv, .ref po, .ref ro, .ref (tT 0), .ref (tB 0), .int (nI 0)]))], [(pa, .inl (ca 3, 6, .inr (.inr (.inr (.inr (pq (va_up q 0 tB)))))))], tw ca tB gB, tw ca (q 0) (h 0), tw ca (q 1) (h 1), tw ca (q 2) (h 2), tw ca (q 3) (h 3), tw ca (q 4) (h 4), tw ca (q 5) (h 5)]) := hD
      refine lv_aload_n hx hb d_E_recorded_42 rfl (lv_at hl 1 rfl) ?_
      refine lv_aload_n hx hb d_E_recorded_43 rfl (lv_at hl 0 rfl) ?_
      refine f_put S cls_E hK hP hD hS 0 rfl 6 (by decide) fl_E_before rfl rfl (rfl) (rfl) (Nat.le_of_ble_eq_true rfl) d_E_recorded_44 (fun H locs hP hD hS => ?_)
      have hP : va_P D classes (List.flatten [[(e_, .inr (0, [.ref pa, .ref sl, .ref sv, .ref po, .ref ro, .ref (tT 0), .ref (q 0 0), .int (nI 0)]))], [(pa, .inl (ca 3, 6, .inr (.inr (.inr (.inr (pq (va_up q 0 tB)))))))], tw ca tB gB, tw ca (q 0) (h 0), tw ca (q 1) (h 1), tw ca (q 2) (h 2), tw ca (q 3) (h 3), tw ca (q 4) (h 4), tw ca (q 5) (h 5)]) H := hP
      have hD : va_D A (List.flatten [[(e_, .inr (0, [.ref pa, .ref sl, .ref sv, .ref po, .ref ro, .ref (tT 0), .ref (q 0 0), .int (nI 0)]))], [(pa, .inl (ca 3, 6, .inr (.inr (.inr (.inr (pq (va_up q 0 tB)))))))], tw ca tB gB, tw ca (q 0) (h 0), tw ca (q 1) (h 1), tw ca (q 2) (h 2), tw ca (q 3) (h 3), tw ca (q 4) (h 4), tw ca (q 5) (h 5)]) := hD
      refine lv_aload_n hx hb d_E_recorded_47 rfl (lv_at hl 1 rfl) ?_
      refine lv_dup hx hb d_E_recorded_48 rfl ?_
      refine f_get S cls_E hK hP 0 rfl 7 (by decide) fl_E_pastCount rfl rfl d_E_recorded_49 ?_
      refine lv_iconst (v := 1) hx hb d_E_recorded_52 (by decide) ?_
      refine lv_iadd hx hb d_E_recorded_53 ?_
      refine lv_tope (z := 1) (by decide) ?_
      refine f_put S cls_E hK hP hD hS 0 rfl 7 (by decide) fl_E_pastCount rfl rfl (rfl) (rfl) (Nat.le_of_ble_eq_true rfl) d_E_recorded_54 (fun H locs hP hD hS => ?_)
      have hP : va_P D classes (List.flatten [[(e_, .inr (0, [.ref pa, .ref sl, .ref sv, .ref po, .ref ro, .ref (tT 0), .ref (q 0 0), .int 1]))], [(pa, .inl (ca 3, 6, .inr (.inr (.inr (.inr (pq (va_up q 0 tB)))))))], tw ca tB gB, tw ca (q 0) (h 0), tw ca (q 1) (h 1), tw ca (q 2) (h 2), tw ca (q 3) (h 3), tw ca (q 4) (h 4), tw ca (q 5) (h 5)]) H := hP
      have hD : va_D A (List.flatten [[(e_, .inr (0, [.ref pa, .ref sl, .ref sv, .ref po, .ref ro, .ref (tT 0), .ref (q 0 0), .int 1]))], [(pa, .inl (ca 3, 6, .inr (.inr (.inr (.inr (pq (va_up q 0 tB)))))))], tw ca tB gB, tw ca (q 0) (h 0), tw ca (q 1) (h 1), tw ca (q 2) (h 2), tw ca (q 3) (h 3), tw ca (q 4) (h 4), tw ca (q 5) (h 5)]) := hD
      refine lv_iload_n hx hb d_E_recorded_57 rfl (lv_at hl 2 rfl) ?_
      have hP : va_P D classes (List.flatten [[(e_, .inr (0, [.ref pa, .ref sl, .ref sv, .ref po, .ref ro, .ref (tT 0), .ref (q 0 0), .int 1]))], [(pa, .inl (ca 3, 6, .inr (.inr (.inr (.inr (pq (va_up q 0 tB)))))))], tw ca (q 0) (h 0), tw ca tB gB, tw ca (q 1) (h 1), tw ca (q 2) (h 2), tw ca (q 3) (h 3), tw ca (q 4) (h 4), tw ca (q 5) (h 5)]) H := va_P.subB (bs := [[(e_, .inr (0, [.ref pa, .ref sl, .ref sv, .ref po, .ref ro, .ref (tT 0), .ref (q 0 0), .int 1]))], [(pa, .inl (ca 3, 6, .inr (.inr (.inr (.inr (pq (va_up q 0 tB)))))))], tw ca tB gB, tw ca (q 0) (h 0), tw ca (q 1) (h 1), tw ca (q 2) (h 2), tw ca (q 3) (h 3), tw ca (q 4) (h 4), tw ca (q 5) (h 5)]) (bs' := [[(e_, .inr (0, [.ref pa, .ref sl, .ref sv, .ref po, .ref ro, .ref (tT 0), .ref (q 0 0), .int 1]))], [(pa, .inl (ca 3, 6, .inr (.inr (.inr (.inr (pq (va_up q 0 tB)))))))], tw ca (q 0) (h 0), tw ca tB gB, tw ca (q 1) (h 1), tw ca (q 2) (h 2), tw ca (q 3) (h 3), tw ca (q 4) (h 4), tw ca (q 5) (h 5)]) hP [0, 1, 3, 2, 4, 5, 6, 7, 8] rfl
      have hD : va_D A (List.flatten [[(e_, .inr (0, [.ref pa, .ref sl, .ref sv, .ref po, .ref ro, .ref (tT 0), .ref (q 0 0), .int 1]))], [(pa, .inl (ca 3, 6, .inr (.inr (.inr (.inr (pq (va_up q 0 tB)))))))], tw ca (q 0) (h 0), tw ca tB gB, tw ca (q 1) (h 1), tw ca (q 2) (h 2), tw ca (q 3) (h 3), tw ca (q 4) (h 4), tw ca (q 5) (h 5)]) := va_D.subB (bs := [[(e_, .inr (0, [.ref pa, .ref sl, .ref sv, .ref po, .ref ro, .ref (tT 0), .ref (q 0 0), .int 1]))], [(pa, .inl (ca 3, 6, .inr (.inr (.inr (.inr (pq (va_up q 0 tB)))))))], tw ca tB gB, tw ca (q 0) (h 0), tw ca (q 1) (h 1), tw ca (q 2) (h 2), tw ca (q 3) (h 3), tw ca (q 4) (h 4), tw ca (q 5) (h 5)]) (bs' := [[(e_, .inr (0, [.ref pa, .ref sl, .ref sv, .ref po, .ref ro, .ref (tT 0), .ref (q 0 0), .int 1]))], [(pa, .inl (ca 3, 6, .inr (.inr (.inr (.inr (pq (va_up q 0 tB)))))))], tw ca (q 0) (h 0), tw ca tB gB, tw ca (q 1) (h 1), tw ca (q 2) (h 2), tw ca (q 3) (h 3), tw ca (q 4) (h 4), tw ca (q 5) (h 5)]) hD [0, 1, 3, 2, 4, 5, 6, 7, 8] rfl rfl
      exact hret _ _ _ _ _ _ d_E_recorded_58 rfl (by first | (simp only [rcd, Nat.reduceLT, Nat.reduceAdd, c_1, ↓reduceIte]; done) | (simp only [rcd, Nat.reduceLT, Nat.reduceAdd, c_1, ↓reduceIte]; rfl) | rfl) (by first | (simp only [rcd, Nat.reduceLT, Nat.reduceAdd, c_1, ↓reduceIte]; done) | (simp only [rcd, Nat.reduceLT, Nat.reduceAdd, c_1, ↓reduceIte]; rfl) | rfl) hP hD hS
    · refine lv_iload_n hx hb d_E_recorded_4 rfl (lv_at hl 1 rfl) ?_
      exact hret _ _ _ _ _ _ d_E_recorded_5 rfl (by first | (simp only [rcd, Nat.reduceLT, Nat.reduceAdd, c_1, ↓reduceIte]; done) | (simp only [rcd, Nat.reduceLT, Nat.reduceAdd, c_1, ↓reduceIte]; rfl) | rfl) (by first | (simp only [rcd, Nat.reduceLT, Nat.reduceAdd, c_1, ↓reduceIte]; done) | (simp only [rcd, Nat.reduceLT, Nat.reduceAdd, c_1, ↓reduceIte]; rfl) | rfl) hP hD hS
  · refine lv_iload_n hx hb d_E_recorded_0 rfl (lv_at hl 1 rfl) ?_
    refine lv_if_ge (tgt := 6) hx hb d_E_recorded_1 (by decide) (fun c_1 => ?_) (fun c_1 => ?_)
    · refine lv_aload_n hx hb d_E_recorded_6 rfl (lv_at hl 0 rfl) ?_
      refine f_get S cls_E hK hP 0 rfl 7 (by decide) fl_E_pastCount rfl rfl d_E_recorded_7 ?_
      refine lv_bipush (v := 6) hx hb d_E_recorded_10 (by decide) ?_
      refine lv_icmp_lt (tgt := 19) hx hb d_E_recorded_12 (by decide) (fun _ => ?_) (fun q => absurd (by decide) q)
      refine lv_aload_n hx hb d_E_recorded_19 rfl (lv_at hl 0 rfl) ?_
      refine f_get S cls_E hK hP 0 rfl 0 (by decide) fl_E_past rfl rfl d_E_recorded_20 ?_
      refine lv_aload_n hx hb d_E_recorded_23 rfl (lv_at hl 0 rfl) ?_
      refine f_get S cls_E hK hP 0 rfl 7 (by decide) fl_E_pastCount rfl rfl d_E_recorded_24 ?_
      refine A_qld S hK hP 1 rfl (r := 1) (by omega) (by decide) rfl (z := q 1 0) (rfl) d_E_recorded_27 ?_
      refine lv_astore_n (lv' := [(2, .ref (q 1 0)), (0, .ref e_), (1, .int a)]) hx hb d_E_recorded_28 rfl hl (by decide) rfl (fun ls hl => ?_)
      refine lv_aload_n hx hb d_E_recorded_29 rfl (lv_at hl 1 rfl) ?_
      refine f_get S cls_E hK hP 0 rfl 0 (by decide) fl_E_past rfl rfl d_E_recorded_30 ?_
      refine lv_aload_n hx hb d_E_recorded_33 rfl (lv_at hl 1 rfl) ?_
      refine f_get S cls_E hK hP 0 rfl 7 (by decide) fl_E_pastCount rfl rfl d_E_recorded_34 ?_
      refine lv_aload_n hx hb d_E_recorded_37 rfl (lv_at hl 1 rfl) ?_
      refine f_get S cls_E hK hP 0 rfl 6 (by decide) fl_E_before rfl rfl d_E_recorded_38 ?_
      refine A_qst S hK hP hD hS 1 2 rfl rfl (r := 1) (by omega) (by decide) rfl d_E_recorded_41 (fun H locs hP hD hS => ?_)
      rw [show va_up (pq q) 1 (some (tB 0)) = pq (va_up q 1 tB) from pq_up q 1 tB] at hP hD
      have hP : va_P D classes (List.flatten [[(e_, .inr (0, [.ref pa, .ref sl, .ref sv, .ref po, .ref ro, .ref (tT 0), .ref (tB 0), .int (nI 1)]))], [(pa, .inl (ca 3, 6, .inr (.inr (.inr (.inr (pq (va_up q 1 tB)))))))], tw ca tB gB, tw ca (q 0) (h 0), tw ca (q 1) (h 1), tw ca (q 2) (h 2), tw ca (q 3) (h 3), tw ca (q 4) (h 4), tw ca (q 5) (h 5)]) H := hP
      have hD : va_D A (List.flatten [[(e_, .inr (0, [.ref pa, .ref sl, .ref sv, .ref po, .ref ro, .ref (tT 0), .ref (tB 0), .int (nI 1)]))], [(pa, .inl (ca 3, 6, .inr (.inr (.inr (.inr (pq (va_up q 1 tB)))))))], tw ca tB gB, tw ca (q 0) (h 0), tw ca (q 1) (h 1), tw ca (q 2) (h 2), tw ca (q 3) (h 3), tw ca (q 4) (h 4), tw ca (q 5) (h 5)]) := hD
      refine lv_aload_n hx hb d_E_recorded_42 rfl (lv_at hl 1 rfl) ?_
      refine lv_aload_n hx hb d_E_recorded_43 rfl (lv_at hl 0 rfl) ?_
      refine f_put S cls_E hK hP hD hS 0 rfl 6 (by decide) fl_E_before rfl rfl (rfl) (rfl) (Nat.le_of_ble_eq_true rfl) d_E_recorded_44 (fun H locs hP hD hS => ?_)
      have hP : va_P D classes (List.flatten [[(e_, .inr (0, [.ref pa, .ref sl, .ref sv, .ref po, .ref ro, .ref (tT 0), .ref (q 1 0), .int (nI 1)]))], [(pa, .inl (ca 3, 6, .inr (.inr (.inr (.inr (pq (va_up q 1 tB)))))))], tw ca tB gB, tw ca (q 0) (h 0), tw ca (q 1) (h 1), tw ca (q 2) (h 2), tw ca (q 3) (h 3), tw ca (q 4) (h 4), tw ca (q 5) (h 5)]) H := hP
      have hD : va_D A (List.flatten [[(e_, .inr (0, [.ref pa, .ref sl, .ref sv, .ref po, .ref ro, .ref (tT 0), .ref (q 1 0), .int (nI 1)]))], [(pa, .inl (ca 3, 6, .inr (.inr (.inr (.inr (pq (va_up q 1 tB)))))))], tw ca tB gB, tw ca (q 0) (h 0), tw ca (q 1) (h 1), tw ca (q 2) (h 2), tw ca (q 3) (h 3), tw ca (q 4) (h 4), tw ca (q 5) (h 5)]) := hD
      refine lv_aload_n hx hb d_E_recorded_47 rfl (lv_at hl 1 rfl) ?_
      refine lv_dup hx hb d_E_recorded_48 rfl ?_
      refine f_get S cls_E hK hP 0 rfl 7 (by decide) fl_E_pastCount rfl rfl d_E_recorded_49 ?_
      refine lv_iconst (v := 1) hx hb d_E_recorded_52 (by decide) ?_
      refine lv_iadd hx hb d_E_recorded_53 ?_
      refine lv_tope (z := 2) (by decide) ?_
      refine f_put S cls_E hK hP hD hS 0 rfl 7 (by decide) fl_E_pastCount rfl rfl (rfl) (rfl) (Nat.le_of_ble_eq_true rfl) d_E_recorded_54 (fun H locs hP hD hS => ?_)
      have hP : va_P D classes (List.flatten [[(e_, .inr (0, [.ref pa, .ref sl, .ref sv, .ref po, .ref ro, .ref (tT 0), .ref (q 1 0), .int 2]))], [(pa, .inl (ca 3, 6, .inr (.inr (.inr (.inr (pq (va_up q 1 tB)))))))], tw ca tB gB, tw ca (q 0) (h 0), tw ca (q 1) (h 1), tw ca (q 2) (h 2), tw ca (q 3) (h 3), tw ca (q 4) (h 4), tw ca (q 5) (h 5)]) H := hP
      have hD : va_D A (List.flatten [[(e_, .inr (0, [.ref pa, .ref sl, .ref sv, .ref po, .ref ro, .ref (tT 0), .ref (q 1 0), .int 2]))], [(pa, .inl (ca 3, 6, .inr (.inr (.inr (.inr (pq (va_up q 1 tB)))))))], tw ca tB gB, tw ca (q 0) (h 0), tw ca (q 1) (h 1), tw ca (q 2) (h 2), tw ca (q 3) (h 3), tw ca (q 4) (h 4), tw ca (q 5) (h 5)]) := hD
      refine lv_iload_n hx hb d_E_recorded_57 rfl (lv_at hl 2 rfl) ?_
      have hP : va_P D classes (List.flatten [[(e_, .inr (0, [.ref pa, .ref sl, .ref sv, .ref po, .ref ro, .ref (tT 0), .ref (q 1 0), .int 2]))], [(pa, .inl (ca 3, 6, .inr (.inr (.inr (.inr (pq (va_up q 1 tB)))))))], tw ca (q 1) (h 1), tw ca (q 0) (h 0), tw ca tB gB, tw ca (q 2) (h 2), tw ca (q 3) (h 3), tw ca (q 4) (h 4), tw ca (q 5) (h 5)]) H := va_P.subB (bs := [[(e_, .inr (0, [.ref pa, .ref sl, .ref sv, .ref po, .ref ro, .ref (tT 0), .ref (q 1 0), .int 2]))], [(pa, .inl (ca 3, 6, .inr (.inr (.inr (.inr (pq (va_up q 1 tB)))))))], tw ca tB gB, tw ca (q 0) (h 0), tw ca (q 1) (h 1), tw ca (q 2) (h 2), tw ca (q 3) (h 3), tw ca (q 4) (h 4), tw ca (q 5) (h 5)]) (bs' := [[(e_, .inr (0, [.ref pa, .ref sl, .ref sv, .ref po, .ref ro, .ref (tT 0), .ref (q 1 0), .int 2]))], [(pa, .inl (ca 3, 6, .inr (.inr (.inr (.inr (pq (va_up q 1 tB)))))))], tw ca (q 1) (h 1), tw ca (q 0) (h 0), tw ca tB gB, tw ca (q 2) (h 2), tw ca (q 3) (h 3), tw ca (q 4) (h 4), tw ca (q 5) (h 5)]) hP [0, 1, 4, 3, 2, 5, 6, 7, 8] rfl
      have hD : va_D A (List.flatten [[(e_, .inr (0, [.ref pa, .ref sl, .ref sv, .ref po, .ref ro, .ref (tT 0), .ref (q 1 0), .int 2]))], [(pa, .inl (ca 3, 6, .inr (.inr (.inr (.inr (pq (va_up q 1 tB)))))))], tw ca (q 1) (h 1), tw ca (q 0) (h 0), tw ca tB gB, tw ca (q 2) (h 2), tw ca (q 3) (h 3), tw ca (q 4) (h 4), tw ca (q 5) (h 5)]) := va_D.subB (bs := [[(e_, .inr (0, [.ref pa, .ref sl, .ref sv, .ref po, .ref ro, .ref (tT 0), .ref (q 1 0), .int 2]))], [(pa, .inl (ca 3, 6, .inr (.inr (.inr (.inr (pq (va_up q 1 tB)))))))], tw ca tB gB, tw ca (q 0) (h 0), tw ca (q 1) (h 1), tw ca (q 2) (h 2), tw ca (q 3) (h 3), tw ca (q 4) (h 4), tw ca (q 5) (h 5)]) (bs' := [[(e_, .inr (0, [.ref pa, .ref sl, .ref sv, .ref po, .ref ro, .ref (tT 0), .ref (q 1 0), .int 2]))], [(pa, .inl (ca 3, 6, .inr (.inr (.inr (.inr (pq (va_up q 1 tB)))))))], tw ca (q 1) (h 1), tw ca (q 0) (h 0), tw ca tB gB, tw ca (q 2) (h 2), tw ca (q 3) (h 3), tw ca (q 4) (h 4), tw ca (q 5) (h 5)]) hD [0, 1, 4, 3, 2, 5, 6, 7, 8] rfl rfl
      exact hret _ _ _ _ _ _ d_E_recorded_58 rfl (by first | (simp only [rcd, Nat.reduceLT, Nat.reduceAdd, c_1, ↓reduceIte]; done) | (simp only [rcd, Nat.reduceLT, Nat.reduceAdd, c_1, ↓reduceIte]; rfl) | rfl) (by first | (simp only [rcd, Nat.reduceLT, Nat.reduceAdd, c_1, ↓reduceIte]; done) | (simp only [rcd, Nat.reduceLT, Nat.reduceAdd, c_1, ↓reduceIte]; rfl) | rfl) hP hD hS
    · refine lv_iload_n hx hb d_E_recorded_4 rfl (lv_at hl 1 rfl) ?_
      exact hret _ _ _ _ _ _ d_E_recorded_5 rfl (by first | (simp only [rcd, Nat.reduceLT, Nat.reduceAdd, c_1, ↓reduceIte]; done) | (simp only [rcd, Nat.reduceLT, Nat.reduceAdd, c_1, ↓reduceIte]; rfl) | rfl) (by first | (simp only [rcd, Nat.reduceLT, Nat.reduceAdd, c_1, ↓reduceIte]; done) | (simp only [rcd, Nat.reduceLT, Nat.reduceAdd, c_1, ↓reduceIte]; rfl) | rfl) hP hD hS
  · refine lv_iload_n hx hb d_E_recorded_0 rfl (lv_at hl 1 rfl) ?_
    refine lv_if_ge (tgt := 6) hx hb d_E_recorded_1 (by decide) (fun c_1 => ?_) (fun c_1 => ?_)
    · refine lv_aload_n hx hb d_E_recorded_6 rfl (lv_at hl 0 rfl) ?_
      refine f_get S cls_E hK hP 0 rfl 7 (by decide) fl_E_pastCount rfl rfl d_E_recorded_7 ?_
      refine lv_bipush (v := 6) hx hb d_E_recorded_10 (by decide) ?_
      refine lv_icmp_lt (tgt := 19) hx hb d_E_recorded_12 (by decide) (fun _ => ?_) (fun q => absurd (by decide) q)
      refine lv_aload_n hx hb d_E_recorded_19 rfl (lv_at hl 0 rfl) ?_
      refine f_get S cls_E hK hP 0 rfl 0 (by decide) fl_E_past rfl rfl d_E_recorded_20 ?_
      refine lv_aload_n hx hb d_E_recorded_23 rfl (lv_at hl 0 rfl) ?_
      refine f_get S cls_E hK hP 0 rfl 7 (by decide) fl_E_pastCount rfl rfl d_E_recorded_24 ?_
      refine A_qld S hK hP 1 rfl (r := 2) (by omega) (by decide) rfl (z := q 2 0) (rfl) d_E_recorded_27 ?_
      refine lv_astore_n (lv' := [(2, .ref (q 2 0)), (0, .ref e_), (1, .int a)]) hx hb d_E_recorded_28 rfl hl (by decide) rfl (fun ls hl => ?_)
      refine lv_aload_n hx hb d_E_recorded_29 rfl (lv_at hl 1 rfl) ?_
      refine f_get S cls_E hK hP 0 rfl 0 (by decide) fl_E_past rfl rfl d_E_recorded_30 ?_
      refine lv_aload_n hx hb d_E_recorded_33 rfl (lv_at hl 1 rfl) ?_
      refine f_get S cls_E hK hP 0 rfl 7 (by decide) fl_E_pastCount rfl rfl d_E_recorded_34 ?_
      refine lv_aload_n hx hb d_E_recorded_37 rfl (lv_at hl 1 rfl) ?_
      refine f_get S cls_E hK hP 0 rfl 6 (by decide) fl_E_before rfl rfl d_E_recorded_38 ?_
      refine A_qst S hK hP hD hS 1 2 rfl rfl (r := 2) (by omega) (by decide) rfl d_E_recorded_41 (fun H locs hP hD hS => ?_)
      rw [show va_up (pq q) 2 (some (tB 0)) = pq (va_up q 2 tB) from pq_up q 2 tB] at hP hD
      have hP : va_P D classes (List.flatten [[(e_, .inr (0, [.ref pa, .ref sl, .ref sv, .ref po, .ref ro, .ref (tT 0), .ref (tB 0), .int (nI 2)]))], [(pa, .inl (ca 3, 6, .inr (.inr (.inr (.inr (pq (va_up q 2 tB)))))))], tw ca tB gB, tw ca (q 0) (h 0), tw ca (q 1) (h 1), tw ca (q 2) (h 2), tw ca (q 3) (h 3), tw ca (q 4) (h 4), tw ca (q 5) (h 5)]) H := hP
      have hD : va_D A (List.flatten [[(e_, .inr (0, [.ref pa, .ref sl, .ref sv, .ref po, .ref ro, .ref (tT 0), .ref (tB 0), .int (nI 2)]))], [(pa, .inl (ca 3, 6, .inr (.inr (.inr (.inr (pq (va_up q 2 tB)))))))], tw ca tB gB, tw ca (q 0) (h 0), tw ca (q 1) (h 1), tw ca (q 2) (h 2), tw ca (q 3) (h 3), tw ca (q 4) (h 4), tw ca (q 5) (h 5)]) := hD
      refine lv_aload_n hx hb d_E_recorded_42 rfl (lv_at hl 1 rfl) ?_
      refine lv_aload_n hx hb d_E_recorded_43 rfl (lv_at hl 0 rfl) ?_
      refine f_put S cls_E hK hP hD hS 0 rfl 6 (by decide) fl_E_before rfl rfl (rfl) (rfl) (Nat.le_of_ble_eq_true rfl) d_E_recorded_44 (fun H locs hP hD hS => ?_)
      have hP : va_P D classes (List.flatten [[(e_, .inr (0, [.ref pa, .ref sl, .ref sv, .ref po, .ref ro, .ref (tT 0), .ref (q 2 0), .int (nI 2)]))], [(pa, .inl (ca 3, 6, .inr (.inr (.inr (.inr (pq (va_up q 2 tB)))))))], tw ca tB gB, tw ca (q 0) (h 0), tw ca (q 1) (h 1), tw ca (q 2) (h 2), tw ca (q 3) (h 3), tw ca (q 4) (h 4), tw ca (q 5) (h 5)]) H := hP
      have hD : va_D A (List.flatten [[(e_, .inr (0, [.ref pa, .ref sl, .ref sv, .ref po, .ref ro, .ref (tT 0), .ref (q 2 0), .int (nI 2)]))], [(pa, .inl (ca 3, 6, .inr (.inr (.inr (.inr (pq (va_up q 2 tB)))))))], tw ca tB gB, tw ca (q 0) (h 0), tw ca (q 1) (h 1), tw ca (q 2) (h 2), tw ca (q 3) (h 3), tw ca (q 4) (h 4), tw ca (q 5) (h 5)]) := hD
      refine lv_aload_n hx hb d_E_recorded_47 rfl (lv_at hl 1 rfl) ?_
      refine lv_dup hx hb d_E_recorded_48 rfl ?_
      refine f_get S cls_E hK hP 0 rfl 7 (by decide) fl_E_pastCount rfl rfl d_E_recorded_49 ?_
      refine lv_iconst (v := 1) hx hb d_E_recorded_52 (by decide) ?_
      refine lv_iadd hx hb d_E_recorded_53 ?_
      refine lv_tope (z := 3) (by decide) ?_
      refine f_put S cls_E hK hP hD hS 0 rfl 7 (by decide) fl_E_pastCount rfl rfl (rfl) (rfl) (Nat.le_of_ble_eq_true rfl) d_E_recorded_54 (fun H locs hP hD hS => ?_)
      have hP : va_P D classes (List.flatten [[(e_, .inr (0, [.ref pa, .ref sl, .ref sv, .ref po, .ref ro, .ref (tT 0), .ref (q 2 0), .int 3]))], [(pa, .inl (ca 3, 6, .inr (.inr (.inr (.inr (pq (va_up q 2 tB)))))))], tw ca tB gB, tw ca (q 0) (h 0), tw ca (q 1) (h 1), tw ca (q 2) (h 2), tw ca (q 3) (h 3), tw ca (q 4) (h 4), tw ca (q 5) (h 5)]) H := hP
      have hD : va_D A (List.flatten [[(e_, .inr (0, [.ref pa, .ref sl, .ref sv, .ref po, .ref ro, .ref (tT 0), .ref (q 2 0), .int 3]))], [(pa, .inl (ca 3, 6, .inr (.inr (.inr (.inr (pq (va_up q 2 tB)))))))], tw ca tB gB, tw ca (q 0) (h 0), tw ca (q 1) (h 1), tw ca (q 2) (h 2), tw ca (q 3) (h 3), tw ca (q 4) (h 4), tw ca (q 5) (h 5)]) := hD
      refine lv_iload_n hx hb d_E_recorded_57 rfl (lv_at hl 2 rfl) ?_
      have hP : va_P D classes (List.flatten [[(e_, .inr (0, [.ref pa, .ref sl, .ref sv, .ref po, .ref ro, .ref (tT 0), .ref (q 2 0), .int 3]))], [(pa, .inl (ca 3, 6, .inr (.inr (.inr (.inr (pq (va_up q 2 tB)))))))], tw ca (q 2) (h 2), tw ca (q 0) (h 0), tw ca (q 1) (h 1), tw ca tB gB, tw ca (q 3) (h 3), tw ca (q 4) (h 4), tw ca (q 5) (h 5)]) H := va_P.subB (bs := [[(e_, .inr (0, [.ref pa, .ref sl, .ref sv, .ref po, .ref ro, .ref (tT 0), .ref (q 2 0), .int 3]))], [(pa, .inl (ca 3, 6, .inr (.inr (.inr (.inr (pq (va_up q 2 tB)))))))], tw ca tB gB, tw ca (q 0) (h 0), tw ca (q 1) (h 1), tw ca (q 2) (h 2), tw ca (q 3) (h 3), tw ca (q 4) (h 4), tw ca (q 5) (h 5)]) (bs' := [[(e_, .inr (0, [.ref pa, .ref sl, .ref sv, .ref po, .ref ro, .ref (tT 0), .ref (q 2 0), .int 3]))], [(pa, .inl (ca 3, 6, .inr (.inr (.inr (.inr (pq (va_up q 2 tB)))))))], tw ca (q 2) (h 2), tw ca (q 0) (h 0), tw ca (q 1) (h 1), tw ca tB gB, tw ca (q 3) (h 3), tw ca (q 4) (h 4), tw ca (q 5) (h 5)]) hP [0, 1, 5, 3, 4, 2, 6, 7, 8] rfl
      have hD : va_D A (List.flatten [[(e_, .inr (0, [.ref pa, .ref sl, .ref sv, .ref po, .ref ro, .ref (tT 0), .ref (q 2 0), .int 3]))], [(pa, .inl (ca 3, 6, .inr (.inr (.inr (.inr (pq (va_up q 2 tB)))))))], tw ca (q 2) (h 2), tw ca (q 0) (h 0), tw ca (q 1) (h 1), tw ca tB gB, tw ca (q 3) (h 3), tw ca (q 4) (h 4), tw ca (q 5) (h 5)]) := va_D.subB (bs := [[(e_, .inr (0, [.ref pa, .ref sl, .ref sv, .ref po, .ref ro, .ref (tT 0), .ref (q 2 0), .int 3]))], [(pa, .inl (ca 3, 6, .inr (.inr (.inr (.inr (pq (va_up q 2 tB)))))))], tw ca tB gB, tw ca (q 0) (h 0), tw ca (q 1) (h 1), tw ca (q 2) (h 2), tw ca (q 3) (h 3), tw ca (q 4) (h 4), tw ca (q 5) (h 5)]) (bs' := [[(e_, .inr (0, [.ref pa, .ref sl, .ref sv, .ref po, .ref ro, .ref (tT 0), .ref (q 2 0), .int 3]))], [(pa, .inl (ca 3, 6, .inr (.inr (.inr (.inr (pq (va_up q 2 tB)))))))], tw ca (q 2) (h 2), tw ca (q 0) (h 0), tw ca (q 1) (h 1), tw ca tB gB, tw ca (q 3) (h 3), tw ca (q 4) (h 4), tw ca (q 5) (h 5)]) hD [0, 1, 5, 3, 4, 2, 6, 7, 8] rfl rfl
      exact hret _ _ _ _ _ _ d_E_recorded_58 rfl (by first | (simp only [rcd, Nat.reduceLT, Nat.reduceAdd, c_1, ↓reduceIte]; done) | (simp only [rcd, Nat.reduceLT, Nat.reduceAdd, c_1, ↓reduceIte]; rfl) | rfl) (by first | (simp only [rcd, Nat.reduceLT, Nat.reduceAdd, c_1, ↓reduceIte]; done) | (simp only [rcd, Nat.reduceLT, Nat.reduceAdd, c_1, ↓reduceIte]; rfl) | rfl) hP hD hS
    · refine lv_iload_n hx hb d_E_recorded_4 rfl (lv_at hl 1 rfl) ?_
      exact hret _ _ _ _ _ _ d_E_recorded_5 rfl (by first | (simp only [rcd, Nat.reduceLT, Nat.reduceAdd, c_1, ↓reduceIte]; done) | (simp only [rcd, Nat.reduceLT, Nat.reduceAdd, c_1, ↓reduceIte]; rfl) | rfl) (by first | (simp only [rcd, Nat.reduceLT, Nat.reduceAdd, c_1, ↓reduceIte]; done) | (simp only [rcd, Nat.reduceLT, Nat.reduceAdd, c_1, ↓reduceIte]; rfl) | rfl) hP hD hS
  · refine lv_iload_n hx hb d_E_recorded_0 rfl (lv_at hl 1 rfl) ?_
    refine lv_if_ge (tgt := 6) hx hb d_E_recorded_1 (by decide) (fun c_1 => ?_) (fun c_1 => ?_)
    · refine lv_aload_n hx hb d_E_recorded_6 rfl (lv_at hl 0 rfl) ?_
      refine f_get S cls_E hK hP 0 rfl 7 (by decide) fl_E_pastCount rfl rfl d_E_recorded_7 ?_
      refine lv_bipush (v := 6) hx hb d_E_recorded_10 (by decide) ?_
      refine lv_icmp_lt (tgt := 19) hx hb d_E_recorded_12 (by decide) (fun _ => ?_) (fun q => absurd (by decide) q)
      refine lv_aload_n hx hb d_E_recorded_19 rfl (lv_at hl 0 rfl) ?_
      refine f_get S cls_E hK hP 0 rfl 0 (by decide) fl_E_past rfl rfl d_E_recorded_20 ?_
      refine lv_aload_n hx hb d_E_recorded_23 rfl (lv_at hl 0 rfl) ?_
      refine f_get S cls_E hK hP 0 rfl 7 (by decide) fl_E_pastCount rfl rfl d_E_recorded_24 ?_
      refine A_qld S hK hP 1 rfl (r := 3) (by omega) (by decide) rfl (z := q 3 0) (rfl) d_E_recorded_27 ?_
      refine lv_astore_n (lv' := [(2, .ref (q 3 0)), (0, .ref e_), (1, .int a)]) hx hb d_E_recorded_28 rfl hl (by decide) rfl (fun ls hl => ?_)
      refine lv_aload_n hx hb d_E_recorded_29 rfl (lv_at hl 1 rfl) ?_
      refine f_get S cls_E hK hP 0 rfl 0 (by decide) fl_E_past rfl rfl d_E_recorded_30 ?_
      refine lv_aload_n hx hb d_E_recorded_33 rfl (lv_at hl 1 rfl) ?_
      refine f_get S cls_E hK hP 0 rfl 7 (by decide) fl_E_pastCount rfl rfl d_E_recorded_34 ?_
      refine lv_aload_n hx hb d_E_recorded_37 rfl (lv_at hl 1 rfl) ?_
      refine f_get S cls_E hK hP 0 rfl 6 (by decide) fl_E_before rfl rfl d_E_recorded_38 ?_
      refine A_qst S hK hP hD hS 1 2 rfl rfl (r := 3) (by omega) (by decide) rfl d_E_recorded_41 (fun H locs hP hD hS => ?_)
      rw [show va_up (pq q) 3 (some (tB 0)) = pq (va_up q 3 tB) from pq_up q 3 tB] at hP hD
      have hP : va_P D classes (List.flatten [[(e_, .inr (0, [.ref pa, .ref sl, .ref sv, .ref po, .ref ro, .ref (tT 0), .ref (tB 0), .int (nI 3)]))], [(pa, .inl (ca 3, 6, .inr (.inr (.inr (.inr (pq (va_up q 3 tB)))))))], tw ca tB gB, tw ca (q 0) (h 0), tw ca (q 1) (h 1), tw ca (q 2) (h 2), tw ca (q 3) (h 3), tw ca (q 4) (h 4), tw ca (q 5) (h 5)]) H := hP
      have hD : va_D A (List.flatten [[(e_, .inr (0, [.ref pa, .ref sl, .ref sv, .ref po, .ref ro, .ref (tT 0), .ref (tB 0), .int (nI 3)]))], [(pa, .inl (ca 3, 6, .inr (.inr (.inr (.inr (pq (va_up q 3 tB)))))))], tw ca tB gB, tw ca (q 0) (h 0), tw ca (q 1) (h 1), tw ca (q 2) (h 2), tw ca (q 3) (h 3), tw ca (q 4) (h 4), tw ca (q 5) (h 5)]) := hD
      refine lv_aload_n hx hb d_E_recorded_42 rfl (lv_at hl 1 rfl) ?_
      refine lv_aload_n hx hb d_E_recorded_43 rfl (lv_at hl 0 rfl) ?_
      refine f_put S cls_E hK hP hD hS 0 rfl 6 (by decide) fl_E_before rfl rfl (rfl) (rfl) (Nat.le_of_ble_eq_true rfl) d_E_recorded_44 (fun H locs hP hD hS => ?_)
      have hP : va_P D classes (List.flatten [[(e_, .inr (0, [.ref pa, .ref sl, .ref sv, .ref po, .ref ro, .ref (tT 0), .ref (q 3 0), .int (nI 3)]))], [(pa, .inl (ca 3, 6, .inr (.inr (.inr (.inr (pq (va_up q 3 tB)))))))], tw ca tB gB, tw ca (q 0) (h 0), tw ca (q 1) (h 1), tw ca (q 2) (h 2), tw ca (q 3) (h 3), tw ca (q 4) (h 4), tw ca (q 5) (h 5)]) H := hP
      have hD : va_D A (List.flatten [[(e_, .inr (0, [.ref pa, .ref sl, .ref sv, .ref po, .ref ro, .ref (tT 0), .ref (q 3 0), .int (nI 3)]))], [(pa, .inl (ca 3, 6, .inr (.inr (.inr (.inr (pq (va_up q 3 tB)))))))], tw ca tB gB, tw ca (q 0) (h 0), tw ca (q 1) (h 1), tw ca (q 2) (h 2), tw ca (q 3) (h 3), tw ca (q 4) (h 4), tw ca (q 5) (h 5)]) := hD
      refine lv_aload_n hx hb d_E_recorded_47 rfl (lv_at hl 1 rfl) ?_
      refine lv_dup hx hb d_E_recorded_48 rfl ?_
      refine f_get S cls_E hK hP 0 rfl 7 (by decide) fl_E_pastCount rfl rfl d_E_recorded_49 ?_
      refine lv_iconst (v := 1) hx hb d_E_recorded_52 (by decide) ?_
      refine lv_iadd hx hb d_E_recorded_53 ?_
      refine lv_tope (z := 4) (by decide) ?_
      refine f_put S cls_E hK hP hD hS 0 rfl 7 (by decide) fl_E_pastCount rfl rfl (rfl) (rfl) (Nat.le_of_ble_eq_true rfl) d_E_recorded_54 (fun H locs hP hD hS => ?_)
      have hP : va_P D classes (List.flatten [[(e_, .inr (0, [.ref pa, .ref sl, .ref sv, .ref po, .ref ro, .ref (tT 0), .ref (q 3 0), .int 4]))], [(pa, .inl (ca 3, 6, .inr (.inr (.inr (.inr (pq (va_up q 3 tB)))))))], tw ca tB gB, tw ca (q 0) (h 0), tw ca (q 1) (h 1), tw ca (q 2) (h 2), tw ca (q 3) (h 3), tw ca (q 4) (h 4), tw ca (q 5) (h 5)]) H := hP
      have hD : va_D A (List.flatten [[(e_, .inr (0, [.ref pa, .ref sl, .ref sv, .ref po, .ref ro, .ref (tT 0), .ref (q 3 0), .int 4]))], [(pa, .inl (ca 3, 6, .inr (.inr (.inr (.inr (pq (va_up q 3 tB)))))))], tw ca tB gB, tw ca (q 0) (h 0), tw ca (q 1) (h 1), tw ca (q 2) (h 2), tw ca (q 3) (h 3), tw ca (q 4) (h 4), tw ca (q 5) (h 5)]) := hD
      refine lv_iload_n hx hb d_E_recorded_57 rfl (lv_at hl 2 rfl) ?_
      have hP : va_P D classes (List.flatten [[(e_, .inr (0, [.ref pa, .ref sl, .ref sv, .ref po, .ref ro, .ref (tT 0), .ref (q 3 0), .int 4]))], [(pa, .inl (ca 3, 6, .inr (.inr (.inr (.inr (pq (va_up q 3 tB)))))))], tw ca (q 3) (h 3), tw ca (q 0) (h 0), tw ca (q 1) (h 1), tw ca (q 2) (h 2), tw ca tB gB, tw ca (q 4) (h 4), tw ca (q 5) (h 5)]) H := va_P.subB (bs := [[(e_, .inr (0, [.ref pa, .ref sl, .ref sv, .ref po, .ref ro, .ref (tT 0), .ref (q 3 0), .int 4]))], [(pa, .inl (ca 3, 6, .inr (.inr (.inr (.inr (pq (va_up q 3 tB)))))))], tw ca tB gB, tw ca (q 0) (h 0), tw ca (q 1) (h 1), tw ca (q 2) (h 2), tw ca (q 3) (h 3), tw ca (q 4) (h 4), tw ca (q 5) (h 5)]) (bs' := [[(e_, .inr (0, [.ref pa, .ref sl, .ref sv, .ref po, .ref ro, .ref (tT 0), .ref (q 3 0), .int 4]))], [(pa, .inl (ca 3, 6, .inr (.inr (.inr (.inr (pq (va_up q 3 tB)))))))], tw ca (q 3) (h 3), tw ca (q 0) (h 0), tw ca (q 1) (h 1), tw ca (q 2) (h 2), tw ca tB gB, tw ca (q 4) (h 4), tw ca (q 5) (h 5)]) hP [0, 1, 6, 3, 4, 5, 2, 7, 8] rfl
      have hD : va_D A (List.flatten [[(e_, .inr (0, [.ref pa, .ref sl, .ref sv, .ref po, .ref ro, .ref (tT 0), .ref (q 3 0), .int 4]))], [(pa, .inl (ca 3, 6, .inr (.inr (.inr (.inr (pq (va_up q 3 tB)))))))], tw ca (q 3) (h 3), tw ca (q 0) (h 0), tw ca (q 1) (h 1), tw ca (q 2) (h 2), tw ca tB gB, tw ca (q 4) (h 4), tw ca (q 5) (h 5)]) := va_D.subB (bs := [[(e_, .inr (0, [.ref pa, .ref sl, .ref sv, .ref po, .ref ro, .ref (tT 0), .ref (q 3 0), .int 4]))], [(pa, .inl (ca 3, 6, .inr (.inr (.inr (.inr (pq (va_up q 3 tB)))))))], tw ca tB gB, tw ca (q 0) (h 0), tw ca (q 1) (h 1), tw ca (q 2) (h 2), tw ca (q 3) (h 3), tw ca (q 4) (h 4), tw ca (q 5) (h 5)]) (bs' := [[(e_, .inr (0, [.ref pa, .ref sl, .ref sv, .ref po, .ref ro, .ref (tT 0), .ref (q 3 0), .int 4]))], [(pa, .inl (ca 3, 6, .inr (.inr (.inr (.inr (pq (va_up q 3 tB)))))))], tw ca (q 3) (h 3), tw ca (q 0) (h 0), tw ca (q 1) (h 1), tw ca (q 2) (h 2), tw ca tB gB, tw ca (q 4) (h 4), tw ca (q 5) (h 5)]) hD [0, 1, 6, 3, 4, 5, 2, 7, 8] rfl rfl
      exact hret _ _ _ _ _ _ d_E_recorded_58 rfl (by first | (simp only [rcd, Nat.reduceLT, Nat.reduceAdd, c_1, ↓reduceIte]; done) | (simp only [rcd, Nat.reduceLT, Nat.reduceAdd, c_1, ↓reduceIte]; rfl) | rfl) (by first | (simp only [rcd, Nat.reduceLT, Nat.reduceAdd, c_1, ↓reduceIte]; done) | (simp only [rcd, Nat.reduceLT, Nat.reduceAdd, c_1, ↓reduceIte]; rfl) | rfl) hP hD hS
    · refine lv_iload_n hx hb d_E_recorded_4 rfl (lv_at hl 1 rfl) ?_
      exact hret _ _ _ _ _ _ d_E_recorded_5 rfl (by first | (simp only [rcd, Nat.reduceLT, Nat.reduceAdd, c_1, ↓reduceIte]; done) | (simp only [rcd, Nat.reduceLT, Nat.reduceAdd, c_1, ↓reduceIte]; rfl) | rfl) (by first | (simp only [rcd, Nat.reduceLT, Nat.reduceAdd, c_1, ↓reduceIte]; done) | (simp only [rcd, Nat.reduceLT, Nat.reduceAdd, c_1, ↓reduceIte]; rfl) | rfl) hP hD hS
  · refine lv_iload_n hx hb d_E_recorded_0 rfl (lv_at hl 1 rfl) ?_
    refine lv_if_ge (tgt := 6) hx hb d_E_recorded_1 (by decide) (fun c_1 => ?_) (fun c_1 => ?_)
    · refine lv_aload_n hx hb d_E_recorded_6 rfl (lv_at hl 0 rfl) ?_
      refine f_get S cls_E hK hP 0 rfl 7 (by decide) fl_E_pastCount rfl rfl d_E_recorded_7 ?_
      refine lv_bipush (v := 6) hx hb d_E_recorded_10 (by decide) ?_
      refine lv_icmp_lt (tgt := 19) hx hb d_E_recorded_12 (by decide) (fun _ => ?_) (fun q => absurd (by decide) q)
      refine lv_aload_n hx hb d_E_recorded_19 rfl (lv_at hl 0 rfl) ?_
      refine f_get S cls_E hK hP 0 rfl 0 (by decide) fl_E_past rfl rfl d_E_recorded_20 ?_
      refine lv_aload_n hx hb d_E_recorded_23 rfl (lv_at hl 0 rfl) ?_
      refine f_get S cls_E hK hP 0 rfl 7 (by decide) fl_E_pastCount rfl rfl d_E_recorded_24 ?_
      refine A_qld S hK hP 1 rfl (r := 4) (by omega) (by decide) rfl (z := q 4 0) (rfl) d_E_recorded_27 ?_
      refine lv_astore_n (lv' := [(2, .ref (q 4 0)), (0, .ref e_), (1, .int a)]) hx hb d_E_recorded_28 rfl hl (by decide) rfl (fun ls hl => ?_)
      refine lv_aload_n hx hb d_E_recorded_29 rfl (lv_at hl 1 rfl) ?_
      refine f_get S cls_E hK hP 0 rfl 0 (by decide) fl_E_past rfl rfl d_E_recorded_30 ?_
      refine lv_aload_n hx hb d_E_recorded_33 rfl (lv_at hl 1 rfl) ?_
      refine f_get S cls_E hK hP 0 rfl 7 (by decide) fl_E_pastCount rfl rfl d_E_recorded_34 ?_
      refine lv_aload_n hx hb d_E_recorded_37 rfl (lv_at hl 1 rfl) ?_
      refine f_get S cls_E hK hP 0 rfl 6 (by decide) fl_E_before rfl rfl d_E_recorded_38 ?_
      refine A_qst S hK hP hD hS 1 2 rfl rfl (r := 4) (by omega) (by decide) rfl d_E_recorded_41 (fun H locs hP hD hS => ?_)
      rw [show va_up (pq q) 4 (some (tB 0)) = pq (va_up q 4 tB) from pq_up q 4 tB] at hP hD
      have hP : va_P D classes (List.flatten [[(e_, .inr (0, [.ref pa, .ref sl, .ref sv, .ref po, .ref ro, .ref (tT 0), .ref (tB 0), .int (nI 4)]))], [(pa, .inl (ca 3, 6, .inr (.inr (.inr (.inr (pq (va_up q 4 tB)))))))], tw ca tB gB, tw ca (q 0) (h 0), tw ca (q 1) (h 1), tw ca (q 2) (h 2), tw ca (q 3) (h 3), tw ca (q 4) (h 4), tw ca (q 5) (h 5)]) H := hP
      have hD : va_D A (List.flatten [[(e_, .inr (0, [.ref pa, .ref sl, .ref sv, .ref po, .ref ro, .ref (tT 0), .ref (tB 0), .int (nI 4)]))], [(pa, .inl (ca 3, 6, .inr (.inr (.inr (.inr (pq (va_up q 4 tB)))))))], tw ca tB gB, tw ca (q 0) (h 0), tw ca (q 1) (h 1), tw ca (q 2) (h 2), tw ca (q 3) (h 3), tw ca (q 4) (h 4), tw ca (q 5) (h 5)]) := hD
      refine lv_aload_n hx hb d_E_recorded_42 rfl (lv_at hl 1 rfl) ?_
      refine lv_aload_n hx hb d_E_recorded_43 rfl (lv_at hl 0 rfl) ?_
      refine f_put S cls_E hK hP hD hS 0 rfl 6 (by decide) fl_E_before rfl rfl (rfl) (rfl) (Nat.le_of_ble_eq_true rfl) d_E_recorded_44 (fun H locs hP hD hS => ?_)
      have hP : va_P D classes (List.flatten [[(e_, .inr (0, [.ref pa, .ref sl, .ref sv, .ref po, .ref ro, .ref (tT 0), .ref (q 4 0), .int (nI 4)]))], [(pa, .inl (ca 3, 6, .inr (.inr (.inr (.inr (pq (va_up q 4 tB)))))))], tw ca tB gB, tw ca (q 0) (h 0), tw ca (q 1) (h 1), tw ca (q 2) (h 2), tw ca (q 3) (h 3), tw ca (q 4) (h 4), tw ca (q 5) (h 5)]) H := hP
      have hD : va_D A (List.flatten [[(e_, .inr (0, [.ref pa, .ref sl, .ref sv, .ref po, .ref ro, .ref (tT 0), .ref (q 4 0), .int (nI 4)]))], [(pa, .inl (ca 3, 6, .inr (.inr (.inr (.inr (pq (va_up q 4 tB)))))))], tw ca tB gB, tw ca (q 0) (h 0), tw ca (q 1) (h 1), tw ca (q 2) (h 2), tw ca (q 3) (h 3), tw ca (q 4) (h 4), tw ca (q 5) (h 5)]) := hD
      refine lv_aload_n hx hb d_E_recorded_47 rfl (lv_at hl 1 rfl) ?_
      refine lv_dup hx hb d_E_recorded_48 rfl ?_
      refine f_get S cls_E hK hP 0 rfl 7 (by decide) fl_E_pastCount rfl rfl d_E_recorded_49 ?_
      refine lv_iconst (v := 1) hx hb d_E_recorded_52 (by decide) ?_
      refine lv_iadd hx hb d_E_recorded_53 ?_
      refine lv_tope (z := 5) (by decide) ?_
      refine f_put S cls_E hK hP hD hS 0 rfl 7 (by decide) fl_E_pastCount rfl rfl (rfl) (rfl) (Nat.le_of_ble_eq_true rfl) d_E_recorded_54 (fun H locs hP hD hS => ?_)
      have hP : va_P D classes (List.flatten [[(e_, .inr (0, [.ref pa, .ref sl, .ref sv, .ref po, .ref ro, .ref (tT 0), .ref (q 4 0), .int 5]))], [(pa, .inl (ca 3, 6, .inr (.inr (.inr (.inr (pq (va_up q 4 tB)))))))], tw ca tB gB, tw ca (q 0) (h 0), tw ca (q 1) (h 1), tw ca (q 2) (h 2), tw ca (q 3) (h 3), tw ca (q 4) (h 4), tw ca (q 5) (h 5)]) H := hP
      have hD : va_D A (List.flatten [[(e_, .inr (0, [.ref pa, .ref sl, .ref sv, .ref po, .ref ro, .ref (tT 0), .ref (q 4 0), .int 5]))], [(pa, .inl (ca 3, 6, .inr (.inr (.inr (.inr (pq (va_up q 4 tB)))))))], tw ca tB gB, tw ca (q 0) (h 0), tw ca (q 1) (h 1), tw ca (q 2) (h 2), tw ca (q 3) (h 3), tw ca (q 4) (h 4), tw ca (q 5) (h 5)]) := hD
      refine lv_iload_n hx hb d_E_recorded_57 rfl (lv_at hl 2 rfl) ?_
      have hP : va_P D classes (List.flatten [[(e_, .inr (0, [.ref pa, .ref sl, .ref sv, .ref po, .ref ro, .ref (tT 0), .ref (q 4 0), .int 5]))], [(pa, .inl (ca 3, 6, .inr (.inr (.inr (.inr (pq (va_up q 4 tB)))))))], tw ca (q 4) (h 4), tw ca (q 0) (h 0), tw ca (q 1) (h 1), tw ca (q 2) (h 2), tw ca (q 3) (h 3), tw ca tB gB, tw ca (q 5) (h 5)]) H := va_P.subB (bs := [[(e_, .inr (0, [.ref pa, .ref sl, .ref sv, .ref po, .ref ro, .ref (tT 0), .ref (q 4 0), .int 5]))], [(pa, .inl (ca 3, 6, .inr (.inr (.inr (.inr (pq (va_up q 4 tB)))))))], tw ca tB gB, tw ca (q 0) (h 0), tw ca (q 1) (h 1), tw ca (q 2) (h 2), tw ca (q 3) (h 3), tw ca (q 4) (h 4), tw ca (q 5) (h 5)]) (bs' := [[(e_, .inr (0, [.ref pa, .ref sl, .ref sv, .ref po, .ref ro, .ref (tT 0), .ref (q 4 0), .int 5]))], [(pa, .inl (ca 3, 6, .inr (.inr (.inr (.inr (pq (va_up q 4 tB)))))))], tw ca (q 4) (h 4), tw ca (q 0) (h 0), tw ca (q 1) (h 1), tw ca (q 2) (h 2), tw ca (q 3) (h 3), tw ca tB gB, tw ca (q 5) (h 5)]) hP [0, 1, 7, 3, 4, 5, 6, 2, 8] rfl
      have hD : va_D A (List.flatten [[(e_, .inr (0, [.ref pa, .ref sl, .ref sv, .ref po, .ref ro, .ref (tT 0), .ref (q 4 0), .int 5]))], [(pa, .inl (ca 3, 6, .inr (.inr (.inr (.inr (pq (va_up q 4 tB)))))))], tw ca (q 4) (h 4), tw ca (q 0) (h 0), tw ca (q 1) (h 1), tw ca (q 2) (h 2), tw ca (q 3) (h 3), tw ca tB gB, tw ca (q 5) (h 5)]) := va_D.subB (bs := [[(e_, .inr (0, [.ref pa, .ref sl, .ref sv, .ref po, .ref ro, .ref (tT 0), .ref (q 4 0), .int 5]))], [(pa, .inl (ca 3, 6, .inr (.inr (.inr (.inr (pq (va_up q 4 tB)))))))], tw ca tB gB, tw ca (q 0) (h 0), tw ca (q 1) (h 1), tw ca (q 2) (h 2), tw ca (q 3) (h 3), tw ca (q 4) (h 4), tw ca (q 5) (h 5)]) (bs' := [[(e_, .inr (0, [.ref pa, .ref sl, .ref sv, .ref po, .ref ro, .ref (tT 0), .ref (q 4 0), .int 5]))], [(pa, .inl (ca 3, 6, .inr (.inr (.inr (.inr (pq (va_up q 4 tB)))))))], tw ca (q 4) (h 4), tw ca (q 0) (h 0), tw ca (q 1) (h 1), tw ca (q 2) (h 2), tw ca (q 3) (h 3), tw ca tB gB, tw ca (q 5) (h 5)]) hD [0, 1, 7, 3, 4, 5, 6, 2, 8] rfl rfl
      exact hret _ _ _ _ _ _ d_E_recorded_58 rfl (by first | (simp only [rcd, Nat.reduceLT, Nat.reduceAdd, c_1, ↓reduceIte]; done) | (simp only [rcd, Nat.reduceLT, Nat.reduceAdd, c_1, ↓reduceIte]; rfl) | rfl) (by first | (simp only [rcd, Nat.reduceLT, Nat.reduceAdd, c_1, ↓reduceIte]; done) | (simp only [rcd, Nat.reduceLT, Nat.reduceAdd, c_1, ↓reduceIte]; rfl) | rfl) hP hD hS
    · refine lv_iload_n hx hb d_E_recorded_4 rfl (lv_at hl 1 rfl) ?_
      exact hret _ _ _ _ _ _ d_E_recorded_5 rfl (by first | (simp only [rcd, Nat.reduceLT, Nat.reduceAdd, c_1, ↓reduceIte]; done) | (simp only [rcd, Nat.reduceLT, Nat.reduceAdd, c_1, ↓reduceIte]; rfl) | rfl) (by first | (simp only [rcd, Nat.reduceLT, Nat.reduceAdd, c_1, ↓reduceIte]; done) | (simp only [rcd, Nat.reduceLT, Nat.reduceAdd, c_1, ↓reduceIte]; rfl) | rfl) hP hD hS
  · refine lv_iload_n hx hb d_E_recorded_0 rfl (lv_at hl 1 rfl) ?_
    refine lv_if_ge (tgt := 6) hx hb d_E_recorded_1 (by decide) (fun c_1 => ?_) (fun c_1 => ?_)
    · refine lv_aload_n hx hb d_E_recorded_6 rfl (lv_at hl 0 rfl) ?_
      refine f_get S cls_E hK hP 0 rfl 7 (by decide) fl_E_pastCount rfl rfl d_E_recorded_7 ?_
      refine lv_bipush (v := 6) hx hb d_E_recorded_10 (by decide) ?_
      refine lv_icmp_lt (tgt := 19) hx hb d_E_recorded_12 (by decide) (fun _ => ?_) (fun q => absurd (by decide) q)
      refine lv_aload_n hx hb d_E_recorded_19 rfl (lv_at hl 0 rfl) ?_
      refine f_get S cls_E hK hP 0 rfl 0 (by decide) fl_E_past rfl rfl d_E_recorded_20 ?_
      refine lv_aload_n hx hb d_E_recorded_23 rfl (lv_at hl 0 rfl) ?_
      refine f_get S cls_E hK hP 0 rfl 7 (by decide) fl_E_pastCount rfl rfl d_E_recorded_24 ?_
      refine A_qld S hK hP 1 rfl (r := 5) (by omega) (by decide) rfl (z := q 5 0) (rfl) d_E_recorded_27 ?_
      refine lv_astore_n (lv' := [(2, .ref (q 5 0)), (0, .ref e_), (1, .int a)]) hx hb d_E_recorded_28 rfl hl (by decide) rfl (fun ls hl => ?_)
      refine lv_aload_n hx hb d_E_recorded_29 rfl (lv_at hl 1 rfl) ?_
      refine f_get S cls_E hK hP 0 rfl 0 (by decide) fl_E_past rfl rfl d_E_recorded_30 ?_
      refine lv_aload_n hx hb d_E_recorded_33 rfl (lv_at hl 1 rfl) ?_
      refine f_get S cls_E hK hP 0 rfl 7 (by decide) fl_E_pastCount rfl rfl d_E_recorded_34 ?_
      refine lv_aload_n hx hb d_E_recorded_37 rfl (lv_at hl 1 rfl) ?_
      refine f_get S cls_E hK hP 0 rfl 6 (by decide) fl_E_before rfl rfl d_E_recorded_38 ?_
      refine A_qst S hK hP hD hS 1 2 rfl rfl (r := 5) (by omega) (by decide) rfl d_E_recorded_41 (fun H locs hP hD hS => ?_)
      rw [show va_up (pq q) 5 (some (tB 0)) = pq (va_up q 5 tB) from pq_up q 5 tB] at hP hD
      have hP : va_P D classes (List.flatten [[(e_, .inr (0, [.ref pa, .ref sl, .ref sv, .ref po, .ref ro, .ref (tT 0), .ref (tB 0), .int (nI 5)]))], [(pa, .inl (ca 3, 6, .inr (.inr (.inr (.inr (pq (va_up q 5 tB)))))))], tw ca tB gB, tw ca (q 0) (h 0), tw ca (q 1) (h 1), tw ca (q 2) (h 2), tw ca (q 3) (h 3), tw ca (q 4) (h 4), tw ca (q 5) (h 5)]) H := hP
      have hD : va_D A (List.flatten [[(e_, .inr (0, [.ref pa, .ref sl, .ref sv, .ref po, .ref ro, .ref (tT 0), .ref (tB 0), .int (nI 5)]))], [(pa, .inl (ca 3, 6, .inr (.inr (.inr (.inr (pq (va_up q 5 tB)))))))], tw ca tB gB, tw ca (q 0) (h 0), tw ca (q 1) (h 1), tw ca (q 2) (h 2), tw ca (q 3) (h 3), tw ca (q 4) (h 4), tw ca (q 5) (h 5)]) := hD
      refine lv_aload_n hx hb d_E_recorded_42 rfl (lv_at hl 1 rfl) ?_
      refine lv_aload_n hx hb d_E_recorded_43 rfl (lv_at hl 0 rfl) ?_
      refine f_put S cls_E hK hP hD hS 0 rfl 6 (by decide) fl_E_before rfl rfl (rfl) (rfl) (Nat.le_of_ble_eq_true rfl) d_E_recorded_44 (fun H locs hP hD hS => ?_)
      have hP : va_P D classes (List.flatten [[(e_, .inr (0, [.ref pa, .ref sl, .ref sv, .ref po, .ref ro, .ref (tT 0), .ref (q 5 0), .int (nI 5)]))], [(pa, .inl (ca 3, 6, .inr (.inr (.inr (.inr (pq (va_up q 5 tB)))))))], tw ca tB gB, tw ca (q 0) (h 0), tw ca (q 1) (h 1), tw ca (q 2) (h 2), tw ca (q 3) (h 3), tw ca (q 4) (h 4), tw ca (q 5) (h 5)]) H := hP
      have hD : va_D A (List.flatten [[(e_, .inr (0, [.ref pa, .ref sl, .ref sv, .ref po, .ref ro, .ref (tT 0), .ref (q 5 0), .int (nI 5)]))], [(pa, .inl (ca 3, 6, .inr (.inr (.inr (.inr (pq (va_up q 5 tB)))))))], tw ca tB gB, tw ca (q 0) (h 0), tw ca (q 1) (h 1), tw ca (q 2) (h 2), tw ca (q 3) (h 3), tw ca (q 4) (h 4), tw ca (q 5) (h 5)]) := hD
      refine lv_aload_n hx hb d_E_recorded_47 rfl (lv_at hl 1 rfl) ?_
      refine lv_dup hx hb d_E_recorded_48 rfl ?_
      refine f_get S cls_E hK hP 0 rfl 7 (by decide) fl_E_pastCount rfl rfl d_E_recorded_49 ?_
      refine lv_iconst (v := 1) hx hb d_E_recorded_52 (by decide) ?_
      refine lv_iadd hx hb d_E_recorded_53 ?_
      refine lv_tope (z := 6) (by decide) ?_
      refine f_put S cls_E hK hP hD hS 0 rfl 7 (by decide) fl_E_pastCount rfl rfl (rfl) (rfl) (Nat.le_of_ble_eq_true rfl) d_E_recorded_54 (fun H locs hP hD hS => ?_)
      have hP : va_P D classes (List.flatten [[(e_, .inr (0, [.ref pa, .ref sl, .ref sv, .ref po, .ref ro, .ref (tT 0), .ref (q 5 0), .int 6]))], [(pa, .inl (ca 3, 6, .inr (.inr (.inr (.inr (pq (va_up q 5 tB)))))))], tw ca tB gB, tw ca (q 0) (h 0), tw ca (q 1) (h 1), tw ca (q 2) (h 2), tw ca (q 3) (h 3), tw ca (q 4) (h 4), tw ca (q 5) (h 5)]) H := hP
      have hD : va_D A (List.flatten [[(e_, .inr (0, [.ref pa, .ref sl, .ref sv, .ref po, .ref ro, .ref (tT 0), .ref (q 5 0), .int 6]))], [(pa, .inl (ca 3, 6, .inr (.inr (.inr (.inr (pq (va_up q 5 tB)))))))], tw ca tB gB, tw ca (q 0) (h 0), tw ca (q 1) (h 1), tw ca (q 2) (h 2), tw ca (q 3) (h 3), tw ca (q 4) (h 4), tw ca (q 5) (h 5)]) := hD
      refine lv_iload_n hx hb d_E_recorded_57 rfl (lv_at hl 2 rfl) ?_
      have hP : va_P D classes (List.flatten [[(e_, .inr (0, [.ref pa, .ref sl, .ref sv, .ref po, .ref ro, .ref (tT 0), .ref (q 5 0), .int 6]))], [(pa, .inl (ca 3, 6, .inr (.inr (.inr (.inr (pq (va_up q 5 tB)))))))], tw ca (q 5) (h 5), tw ca (q 0) (h 0), tw ca (q 1) (h 1), tw ca (q 2) (h 2), tw ca (q 3) (h 3), tw ca (q 4) (h 4), tw ca tB gB]) H := va_P.subB (bs := [[(e_, .inr (0, [.ref pa, .ref sl, .ref sv, .ref po, .ref ro, .ref (tT 0), .ref (q 5 0), .int 6]))], [(pa, .inl (ca 3, 6, .inr (.inr (.inr (.inr (pq (va_up q 5 tB)))))))], tw ca tB gB, tw ca (q 0) (h 0), tw ca (q 1) (h 1), tw ca (q 2) (h 2), tw ca (q 3) (h 3), tw ca (q 4) (h 4), tw ca (q 5) (h 5)]) (bs' := [[(e_, .inr (0, [.ref pa, .ref sl, .ref sv, .ref po, .ref ro, .ref (tT 0), .ref (q 5 0), .int 6]))], [(pa, .inl (ca 3, 6, .inr (.inr (.inr (.inr (pq (va_up q 5 tB)))))))], tw ca (q 5) (h 5), tw ca (q 0) (h 0), tw ca (q 1) (h 1), tw ca (q 2) (h 2), tw ca (q 3) (h 3), tw ca (q 4) (h 4), tw ca tB gB]) hP [0, 1, 8, 3, 4, 5, 6, 7, 2] rfl
      have hD : va_D A (List.flatten [[(e_, .inr (0, [.ref pa, .ref sl, .ref sv, .ref po, .ref ro, .ref (tT 0), .ref (q 5 0), .int 6]))], [(pa, .inl (ca 3, 6, .inr (.inr (.inr (.inr (pq (va_up q 5 tB)))))))], tw ca (q 5) (h 5), tw ca (q 0) (h 0), tw ca (q 1) (h 1), tw ca (q 2) (h 2), tw ca (q 3) (h 3), tw ca (q 4) (h 4), tw ca tB gB]) := va_D.subB (bs := [[(e_, .inr (0, [.ref pa, .ref sl, .ref sv, .ref po, .ref ro, .ref (tT 0), .ref (q 5 0), .int 6]))], [(pa, .inl (ca 3, 6, .inr (.inr (.inr (.inr (pq (va_up q 5 tB)))))))], tw ca tB gB, tw ca (q 0) (h 0), tw ca (q 1) (h 1), tw ca (q 2) (h 2), tw ca (q 3) (h 3), tw ca (q 4) (h 4), tw ca (q 5) (h 5)]) (bs' := [[(e_, .inr (0, [.ref pa, .ref sl, .ref sv, .ref po, .ref ro, .ref (tT 0), .ref (q 5 0), .int 6]))], [(pa, .inl (ca 3, 6, .inr (.inr (.inr (.inr (pq (va_up q 5 tB)))))))], tw ca (q 5) (h 5), tw ca (q 0) (h 0), tw ca (q 1) (h 1), tw ca (q 2) (h 2), tw ca (q 3) (h 3), tw ca (q 4) (h 4), tw ca tB gB]) hD [0, 1, 8, 3, 4, 5, 6, 7, 2] rfl rfl
      exact hret _ _ _ _ _ _ d_E_recorded_58 rfl (by first | (simp only [rcd, Nat.reduceLT, Nat.reduceAdd, c_1, ↓reduceIte]; done) | (simp only [rcd, Nat.reduceLT, Nat.reduceAdd, c_1, ↓reduceIte]; rfl) | rfl) (by first | (simp only [rcd, Nat.reduceLT, Nat.reduceAdd, c_1, ↓reduceIte]; done) | (simp only [rcd, Nat.reduceLT, Nat.reduceAdd, c_1, ↓reduceIte]; rfl) | rfl) hP hD hS
    · refine lv_iload_n hx hb d_E_recorded_4 rfl (lv_at hl 1 rfl) ?_
      exact hret _ _ _ _ _ _ d_E_recorded_5 rfl (by first | (simp only [rcd, Nat.reduceLT, Nat.reduceAdd, c_1, ↓reduceIte]; done) | (simp only [rcd, Nat.reduceLT, Nat.reduceAdd, c_1, ↓reduceIte]; rfl) | rfl) (by first | (simp only [rcd, Nat.reduceLT, Nat.reduceAdd, c_1, ↓reduceIte]; done) | (simp only [rcd, Nat.reduceLT, Nat.reduceAdd, c_1, ↓reduceIte]; rfl) | rfl) hP hD hS
  · refine lv_iload_n hx hb d_E_recorded_0 rfl (lv_at hl 1 rfl) ?_
    refine lv_if_ge (tgt := 6) hx hb d_E_recorded_1 (by decide) (fun c_1 => ?_) (fun c_1 => ?_)
    · refine lv_aload_n hx hb d_E_recorded_6 rfl (lv_at hl 0 rfl) ?_
      refine f_get S cls_E hK hP 0 rfl 7 (by decide) fl_E_pastCount rfl rfl d_E_recorded_7 ?_
      refine lv_bipush (v := 6) hx hb d_E_recorded_10 (by decide) ?_
      refine lv_icmp_lt (tgt := 19) hx hb d_E_recorded_12 (by decide) (fun q => absurd q (by decide)) (fun _ => ?_)
      refine lv_aload_n hx hb d_E_recorded_15 rfl (lv_at hl 0 rfl) ?_
      refine MV.callB (bs := [[(e_, .inr (0, [.ref pa, .ref sl, .ref sv, .ref po, .ref ro, .ref (tT 0), .ref (tB 0), .int (nI 6)]))], [(pa, .inl (ca 3, 6, .inr (.inr (.inr (.inr (pq q))))))], tw ca tB gB, tw ca (q 0) (h 0), tw ca (q 1) (h 1), tw ca (q 2) (h 2), tw ca (q 3) (h 3), tw ca (q 4) (h 4), tw ca (q 5) (h 5)]) (bc := [[(e_, .inr (0, [.ref pa, .ref sl, .ref sv, .ref po, .ref ro, .ref (tT 0), .ref (tB 0), .int (nI 6)]))], [(pa, .inl (ca 3, 6, .inr (.inr (.inr (.inr (pq q))))))], tw ca tB gB, tw ca (q 0) (h 0), tw ca (q 1) (h 1), tw ca (q 2) (h 2), tw ca (q 3) (h 3), tw ca (q 4) (h 4), tw ca (q 5) (h 5)]) (br := []) (bc' := [[(e_, .inr (0, [.ref pa, .ref sl, .ref sv, .ref po, .ref ro, .ref (tT 0), .ref (tB 0), .int (nI 5)]))], [(pa, .inl (ca 3, 6, .inr (.inr (.inr (.inr (pq (rot q)))))))], tw ca tB gB, tw ca (q 0) (h 0), tw ca (q 1) (h 1), tw ca (q 2) (h 2), tw ca (q 3) (h 3), tw ca (q 4) (h 4), tw ca (q 5) (h 5)]) S (c_E_dropOldest l D ca  e_ pa sl sv po ro tT tB q h gB ) k_E_139 hP hD hS hA hK [0, 1, 2, 3, 4, 5, 6, 7, 8] [] rfl rfl rfl rfl rfl rfl (by decide +kernel) 0 (ci := 0) (fs := [.ref pa, .ref sl, .ref sv, .ref po, .ref ro, .ref (tT 0), .ref (tB 0), .int (nI 6)]) rfl rfl rfl rfl hl.1 ⟨Nat.le_of_ble_eq_true rfl, Nat.le_of_ble_eq_true rfl⟩ ⟨Nat.zero_le _, Nat.zero_le _⟩ (Nat.le_of_ble_eq_true rfl) d_E_recorded_16 (fun H locs hP hD hS => ?_)
      have hP : va_P D classes (List.flatten [[(e_, .inr (0, [.ref pa, .ref sl, .ref sv, .ref po, .ref ro, .ref (tT 0), .ref (tB 0), .int (nI 5)]))], [(pa, .inl (ca 3, 6, .inr (.inr (.inr (.inr (pq (rot q)))))))], tw ca tB gB, tw ca (q 0) (h 0), tw ca (q 1) (h 1), tw ca (q 2) (h 2), tw ca (q 3) (h 3), tw ca (q 4) (h 4), tw ca (q 5) (h 5)]) H := hP
      have hD : va_D A (List.flatten [[(e_, .inr (0, [.ref pa, .ref sl, .ref sv, .ref po, .ref ro, .ref (tT 0), .ref (tB 0), .int (nI 5)]))], [(pa, .inl (ca 3, 6, .inr (.inr (.inr (.inr (pq (rot q)))))))], tw ca tB gB, tw ca (q 0) (h 0), tw ca (q 1) (h 1), tw ca (q 2) (h 2), tw ca (q 3) (h 3), tw ca (q 4) (h 4), tw ca (q 5) (h 5)]) := hD
      refine lv_aload_n hx hb d_E_recorded_19 rfl (lv_at hl 0 rfl) ?_
      refine f_get S cls_E hK hP 0 rfl 0 (by decide) fl_E_past rfl rfl d_E_recorded_20 ?_
      refine lv_aload_n hx hb d_E_recorded_23 rfl (lv_at hl 0 rfl) ?_
      refine f_get S cls_E hK hP 0 rfl 7 (by decide) fl_E_pastCount rfl rfl d_E_recorded_24 ?_
      refine A_qld S hK hP 1 rfl (r := 5) (by omega) (by decide) rfl (z := q 0 0) (rfl) d_E_recorded_27 ?_
      refine lv_astore_n (lv' := [(2, .ref (q 0 0)), (0, .ref e_), (1, .int a)]) hx hb d_E_recorded_28 rfl hl (by decide) rfl (fun ls hl => ?_)
      refine lv_aload_n hx hb d_E_recorded_29 rfl (lv_at hl 1 rfl) ?_
      refine f_get S cls_E hK hP 0 rfl 0 (by decide) fl_E_past rfl rfl d_E_recorded_30 ?_
      refine lv_aload_n hx hb d_E_recorded_33 rfl (lv_at hl 1 rfl) ?_
      refine f_get S cls_E hK hP 0 rfl 7 (by decide) fl_E_pastCount rfl rfl d_E_recorded_34 ?_
      refine lv_aload_n hx hb d_E_recorded_37 rfl (lv_at hl 1 rfl) ?_
      refine f_get S cls_E hK hP 0 rfl 6 (by decide) fl_E_before rfl rfl d_E_recorded_38 ?_
      refine A_qst S hK hP hD hS 1 2 rfl rfl (r := 5) (by omega) (by decide) rfl d_E_recorded_41 (fun H locs hP hD hS => ?_)
      rw [show va_up (pq (rot q)) 5 (some (tB 0)) = pq (va_up (rot q) 5 tB) from pq_up (rot q) 5 tB] at hP hD
      have hP : va_P D classes (List.flatten [[(e_, .inr (0, [.ref pa, .ref sl, .ref sv, .ref po, .ref ro, .ref (tT 0), .ref (tB 0), .int (nI 5)]))], [(pa, .inl (ca 3, 6, .inr (.inr (.inr (.inr (pq (va_up (rot q) 5 tB)))))))], tw ca tB gB, tw ca (q 0) (h 0), tw ca (q 1) (h 1), tw ca (q 2) (h 2), tw ca (q 3) (h 3), tw ca (q 4) (h 4), tw ca (q 5) (h 5)]) H := hP
      have hD : va_D A (List.flatten [[(e_, .inr (0, [.ref pa, .ref sl, .ref sv, .ref po, .ref ro, .ref (tT 0), .ref (tB 0), .int (nI 5)]))], [(pa, .inl (ca 3, 6, .inr (.inr (.inr (.inr (pq (va_up (rot q) 5 tB)))))))], tw ca tB gB, tw ca (q 0) (h 0), tw ca (q 1) (h 1), tw ca (q 2) (h 2), tw ca (q 3) (h 3), tw ca (q 4) (h 4), tw ca (q 5) (h 5)]) := hD
      refine lv_aload_n hx hb d_E_recorded_42 rfl (lv_at hl 1 rfl) ?_
      refine lv_aload_n hx hb d_E_recorded_43 rfl (lv_at hl 0 rfl) ?_
      refine f_put S cls_E hK hP hD hS 0 rfl 6 (by decide) fl_E_before rfl rfl (rfl) (rfl) (Nat.le_of_ble_eq_true rfl) d_E_recorded_44 (fun H locs hP hD hS => ?_)
      have hP : va_P D classes (List.flatten [[(e_, .inr (0, [.ref pa, .ref sl, .ref sv, .ref po, .ref ro, .ref (tT 0), .ref (q 0 0), .int (nI 5)]))], [(pa, .inl (ca 3, 6, .inr (.inr (.inr (.inr (pq (va_up (rot q) 5 tB)))))))], tw ca tB gB, tw ca (q 0) (h 0), tw ca (q 1) (h 1), tw ca (q 2) (h 2), tw ca (q 3) (h 3), tw ca (q 4) (h 4), tw ca (q 5) (h 5)]) H := hP
      have hD : va_D A (List.flatten [[(e_, .inr (0, [.ref pa, .ref sl, .ref sv, .ref po, .ref ro, .ref (tT 0), .ref (q 0 0), .int (nI 5)]))], [(pa, .inl (ca 3, 6, .inr (.inr (.inr (.inr (pq (va_up (rot q) 5 tB)))))))], tw ca tB gB, tw ca (q 0) (h 0), tw ca (q 1) (h 1), tw ca (q 2) (h 2), tw ca (q 3) (h 3), tw ca (q 4) (h 4), tw ca (q 5) (h 5)]) := hD
      refine lv_aload_n hx hb d_E_recorded_47 rfl (lv_at hl 1 rfl) ?_
      refine lv_dup hx hb d_E_recorded_48 rfl ?_
      refine f_get S cls_E hK hP 0 rfl 7 (by decide) fl_E_pastCount rfl rfl d_E_recorded_49 ?_
      refine lv_iconst (v := 1) hx hb d_E_recorded_52 (by decide) ?_
      refine lv_iadd hx hb d_E_recorded_53 ?_
      refine lv_tope (z := nI (5 + 1)) (nI_add 5 1) ?_
      refine f_put S cls_E hK hP hD hS 0 rfl 7 (by decide) fl_E_pastCount rfl rfl (rfl) (rfl) (Nat.le_of_ble_eq_true rfl) d_E_recorded_54 (fun H locs hP hD hS => ?_)
      have hP : va_P D classes (List.flatten [[(e_, .inr (0, [.ref pa, .ref sl, .ref sv, .ref po, .ref ro, .ref (tT 0), .ref (q 0 0), .int (nI (5 + 1))]))], [(pa, .inl (ca 3, 6, .inr (.inr (.inr (.inr (pq (va_up (rot q) 5 tB)))))))], tw ca tB gB, tw ca (q 0) (h 0), tw ca (q 1) (h 1), tw ca (q 2) (h 2), tw ca (q 3) (h 3), tw ca (q 4) (h 4), tw ca (q 5) (h 5)]) H := hP
      have hD : va_D A (List.flatten [[(e_, .inr (0, [.ref pa, .ref sl, .ref sv, .ref po, .ref ro, .ref (tT 0), .ref (q 0 0), .int (nI (5 + 1))]))], [(pa, .inl (ca 3, 6, .inr (.inr (.inr (.inr (pq (va_up (rot q) 5 tB)))))))], tw ca tB gB, tw ca (q 0) (h 0), tw ca (q 1) (h 1), tw ca (q 2) (h 2), tw ca (q 3) (h 3), tw ca (q 4) (h 4), tw ca (q 5) (h 5)]) := hD
      refine lv_iload_n hx hb d_E_recorded_57 rfl (lv_at hl 2 rfl) ?_
      have hP : va_P D classes (List.flatten [[(e_, .inr (0, [.ref pa, .ref sl, .ref sv, .ref po, .ref ro, .ref (tT 0), .ref (q 0 0), .int (nI (5 + 1))]))], [(pa, .inl (ca 3, 6, .inr (.inr (.inr (.inr (pq (va_up (rot q) 5 tB)))))))], tw ca (q 0) (h 0), tw ca (q 1) (h 1), tw ca (q 2) (h 2), tw ca (q 3) (h 3), tw ca (q 4) (h 4), tw ca (q 5) (h 5), tw ca tB gB]) H := va_P.subB (bs := [[(e_, .inr (0, [.ref pa, .ref sl, .ref sv, .ref po, .ref ro, .ref (tT 0), .ref (q 0 0), .int (nI (5 + 1))]))], [(pa, .inl (ca 3, 6, .inr (.inr (.inr (.inr (pq (va_up (rot q) 5 tB)))))))], tw ca tB gB, tw ca (q 0) (h 0), tw ca (q 1) (h 1), tw ca (q 2) (h 2), tw ca (q 3) (h 3), tw ca (q 4) (h 4), tw ca (q 5) (h 5)]) (bs' := [[(e_, .inr (0, [.ref pa, .ref sl, .ref sv, .ref po, .ref ro, .ref (tT 0), .ref (q 0 0), .int (nI (5 + 1))]))], [(pa, .inl (ca 3, 6, .inr (.inr (.inr (.inr (pq (va_up (rot q) 5 tB)))))))], tw ca (q 0) (h 0), tw ca (q 1) (h 1), tw ca (q 2) (h 2), tw ca (q 3) (h 3), tw ca (q 4) (h 4), tw ca (q 5) (h 5), tw ca tB gB]) hP [0, 1, 3, 4, 5, 6, 7, 8, 2] rfl
      have hD : va_D A (List.flatten [[(e_, .inr (0, [.ref pa, .ref sl, .ref sv, .ref po, .ref ro, .ref (tT 0), .ref (q 0 0), .int (nI (5 + 1))]))], [(pa, .inl (ca 3, 6, .inr (.inr (.inr (.inr (pq (va_up (rot q) 5 tB)))))))], tw ca (q 0) (h 0), tw ca (q 1) (h 1), tw ca (q 2) (h 2), tw ca (q 3) (h 3), tw ca (q 4) (h 4), tw ca (q 5) (h 5), tw ca tB gB]) := va_D.subB (bs := [[(e_, .inr (0, [.ref pa, .ref sl, .ref sv, .ref po, .ref ro, .ref (tT 0), .ref (q 0 0), .int (nI (5 + 1))]))], [(pa, .inl (ca 3, 6, .inr (.inr (.inr (.inr (pq (va_up (rot q) 5 tB)))))))], tw ca tB gB, tw ca (q 0) (h 0), tw ca (q 1) (h 1), tw ca (q 2) (h 2), tw ca (q 3) (h 3), tw ca (q 4) (h 4), tw ca (q 5) (h 5)]) (bs' := [[(e_, .inr (0, [.ref pa, .ref sl, .ref sv, .ref po, .ref ro, .ref (tT 0), .ref (q 0 0), .int (nI (5 + 1))]))], [(pa, .inl (ca 3, 6, .inr (.inr (.inr (.inr (pq (va_up (rot q) 5 tB)))))))], tw ca (q 0) (h 0), tw ca (q 1) (h 1), tw ca (q 2) (h 2), tw ca (q 3) (h 3), tw ca (q 4) (h 4), tw ca (q 5) (h 5), tw ca tB gB]) hD [0, 1, 3, 4, 5, 6, 7, 8, 2] rfl rfl
      exact hret _ _ _ _ _ _ d_E_recorded_58 rfl (by first | (simp only [rcd, Nat.reduceLT, Nat.reduceAdd, c_1, ↓reduceIte]; done) | (simp only [rcd, Nat.reduceLT, Nat.reduceAdd, c_1, ↓reduceIte]; rfl) | rfl) (by first | (simp only [rcd, Nat.reduceLT, Nat.reduceAdd, c_1, ↓reduceIte]; done) | (simp only [rcd, Nat.reduceLT, Nat.reduceAdd, c_1, ↓reduceIte]; rfl) | rfl) hP hD hS
    · refine lv_iload_n hx hb d_E_recorded_4 rfl (lv_at hl 1 rfl) ?_
      exact hret _ _ _ _ _ _ d_E_recorded_5 rfl (by first | (simp only [rcd, Nat.reduceLT, Nat.reduceAdd, c_1, ↓reduceIte]; done) | (simp only [rcd, Nat.reduceLT, Nat.reduceAdd, c_1, ↓reduceIte]; rfl) | rfl) (by first | (simp only [rcd, Nat.reduceLT, Nat.reduceAdd, c_1, ↓reduceIte]; done) | (simp only [rcd, Nat.reduceLT, Nat.reduceAdd, c_1, ↓reduceIte]; rfl) | rfl) hP hD hS
