/-! Worlds in blocks: parts of a world are taken by the places of its blocks -/
theorem va_D_pw {A : Nat → Prop} {ws : va_W} : va_D A ws ↔ ws.Pairwise (fun p q => p.1 ≠ q.1) ∧ ∀ q ∈ ws, A q.1 := by
  constructor
  · intro h
    refine ⟨?_, fun q hq => ?_⟩
    · rw [List.pairwise_iff_getElem]
      intro i j hi hj hij e
      have := h.1 i j _ _ (List.getElem?_eq_getElem hi) (List.getElem?_eq_getElem hj) e
      omega
    · obtain ⟨k, hk⟩ := List.getElem?_of_mem hq
      exact h.2 k q hk
  · intro h
    have h1 := List.pairwise_iff_getElem.mp h.1
    refine ⟨fun i j p q hi hj e => ?_, fun k q hk => h.2 q (List.mem_of_getElem? hk)⟩
    obtain ⟨hi1, hi2⟩ := List.getElem?_eq_some_iff.mp hi
    obtain ⟨hj1, hj2⟩ := List.getElem?_eq_some_iff.mp hj
    rcases Nat.lt_trichotomy i j with z | z | z
    · exact absurd (by rw [hi2, hj2]; exact e) (h1 i j hi1 hj1 z)
    · exact z
    · exact absurd (by rw [hi2, hj2]; exact e.symm) (h1 j i hj1 hi1 z)
theorem va_P_mem {D : va_G} {cl : List vw_C} {ws : va_W} {H : Heap} : va_P D cl ws H ↔ ∀ q ∈ ws, va_at D cl q H := by
  constructor
  · intro h q hq
    obtain ⟨k, hk⟩ := List.getElem?_of_mem hq
    exact h k q hk
  · intro h k q hk
    exact h q (List.mem_of_getElem? hk)
theorem bl_at {bs bs' : List va_W} {is : List Nat} (hs : is.map (fun i => bs[i]?) = bs'.map some) {k : Nat} {w : va_W} (hk : bs'[k]? = some w) : ∃ i, is[k]? = some i ∧ bs[i]? = some w := by
  have h1 : (is.map (fun i => bs[i]?))[k]? = some (some w) := by rw [hs, List.getElem?_map, hk]; rfl
  rw [List.getElem?_map] at h1
  cases hi : is[k]? with
  | none => rw [hi] at h1; cases h1
  | some i => rw [hi] at h1; exact ⟨i, rfl, Option.some.inj h1⟩
theorem va_P.subB {D : va_G} {cl : List vw_C} {bs bs' : List va_W} {H : Heap} (h : va_P D cl bs.flatten H) (is : List Nat) (hs : is.map (fun i => bs[i]?) = bs'.map some) : va_P D cl bs'.flatten H := by
  rw [va_P_mem] at h ⊢
  intro q hq
  obtain ⟨w, hw, hqw⟩ := List.mem_flatten.mp hq
  obtain ⟨k, hk⟩ := List.getElem?_of_mem hw
  obtain ⟨i, -, hi⟩ := bl_at hs hk
  exact h q (List.mem_flatten.mpr ⟨w, List.mem_of_getElem? hi, hqw⟩)
theorem va_D.subB {A : Nat → Prop} {bs bs' : List va_W} (h : va_D A bs.flatten) (is : List Nat) (hn : va_nd is = true) (hs : is.map (fun i => bs[i]?) = bs'.map some) : va_D A bs'.flatten := by
  rw [va_D_pw] at h ⊢
  obtain ⟨h1, h2⟩ := h
  rw [List.pairwise_flatten] at h1
  obtain ⟨h3, h4⟩ := h1
  refine ⟨List.pairwise_flatten.mpr ⟨fun w hw => ?_, ?_⟩, fun q hq => ?_⟩
  · obtain ⟨k, hk⟩ := List.getElem?_of_mem hw
    obtain ⟨i, -, hi⟩ := bl_at hs hk
    exact h3 w (List.mem_of_getElem? hi)
  · rw [List.pairwise_iff_getElem]
    intro i j hi hj hij x hx y hy
    obtain ⟨a, ha, ha2⟩ := bl_at hs (List.getElem?_eq_getElem hi)
    obtain ⟨b, hb, hb2⟩ := bl_at hs (List.getElem?_eq_getElem hj)
    have hab : a ≠ b := fun e => by
      subst e
      have := va_nd_inj is hn i j a ha hb
      omega
    obtain ⟨a1, a2⟩ := List.getElem?_eq_some_iff.mp ha2
    obtain ⟨b1, b2⟩ := List.getElem?_eq_some_iff.mp hb2
    have hp := List.pairwise_iff_getElem.mp h4
    rcases Nat.lt_or_ge a b with z | z
    · exact hp a b a1 b1 z x (by rw [a2]; exact hx) y (by rw [b2]; exact hy)
    · exact (hp b a b1 a1 (by omega) y (by rw [b2]; exact hy) x (by rw [a2]; exact hx)).symm
  · obtain ⟨w, hw, hqw⟩ := List.mem_flatten.mp hq
    obtain ⟨k, hk⟩ := List.getElem?_of_mem hw
    obtain ⟨i, -, hi⟩ := bl_at hs hk
    exact h2 q (List.mem_flatten.mpr ⟨w, List.mem_of_getElem? hi, hqw⟩)
theorem va_joinA {A0 : Nat → Prop} {D : va_G} {cl : List vw_C} {wc wr w1 : va_W} {H H1 : Heap} (hP : va_P D cl wr H) (hD : va_D A0 wr) (hx : ∀ p ∈ wc, ∀ q ∈ wr, p.1 ≠ q.1) (hk : ∀ q : Nat, q < H.size → ¬ va_A wc H.size q → H1[q]? = H[q]?) (hF : ∀ q, va_A wc H.size q → A0 q) (hP1 : va_P D cl w1 H1) (hD1 : va_D (va_A wc H.size) w1) : va_P D cl (wr ++ w1) H1 ∧ va_D A0 (wr ++ w1) := by
  have apart : ∀ q ∈ wr, q.1 < H.size ∧ ¬ va_A wc H.size q.1 := by
    intro q hq
    obtain ⟨k, hk2⟩ := List.getElem?_of_mem hq
    have hl := (hP k q hk2).lt
    refine ⟨hl, fun h => ?_⟩
    rcases h with ⟨k2, e, h⟩ | h
    · exact hx _ (List.mem_of_getElem? h) q hq rfl
    · omega
  refine ⟨va_P.app (fun k q hq => ?_) hP1, va_D.app hD (hD1.weaken (fun k q _ h => hF q.1 h)) (fun i j x y h1 h2 e => ?_)⟩
  · obtain ⟨g1, g2⟩ := apart q (List.mem_of_getElem? hq)
    exact (hP k q hq).kept (hk q.1 g1 g2)
  · exact (apart x (List.mem_of_getElem? h1)).2 (by rw [e]; exact hD1.2 j y h2)
section BW
variable {p : Program} {l : Launch} {e : Env} {R : Room} {s : State} {m : MethodId} {args : Array Value} {below : List Frame} {meth : Method} {c : Code} {H H0 : Heap} {locs : List Loc} {cells slots : Nat} {Q : State → Prop}
variable {cc : ByteArray} {pc nL : Nat} {ls : Array Slot} {rest st0 : List Value} {D : va_G} {ca : Nat → ClassId} {A : Nat → Prop} {a : Nat} {bs bc br bc' : List va_W} {wc w' : va_W} {own : String} {idx : Nat} {y : MethodName} {b : ByteArray} {n k fr lo : Nat} {rt : Option FieldType} {As : List Value} {E : Int32}
theorem bl_free (hD : va_D A bs.flatten) (hS : va_S A H0 H locs) (hA : ∀ q, H0.size ≤ q → A q) (isC : List Nat) (hC1 : isC.map (fun i => bs[i]?) = bc.map some) : ∀ q, va_A bc.flatten H.size q → A q := by
  intro q h
  rcases h with ⟨k, e, h⟩ | h
  · obtain ⟨w, hw, hqw⟩ := List.mem_flatten.mp (List.mem_of_getElem? h)
    obtain ⟨k2, hk2⟩ := List.getElem?_of_mem hw
    obtain ⟨i, -, hi⟩ := bl_at hC1 hk2
    exact (va_D_pw.mp hD).2 (q, e) (List.mem_flatten.mpr ⟨w, List.mem_of_getElem? hi, hqw⟩)
  · exact hA q (Nat.le_trans hS.1 h)
theorem bl_apart (hD : va_D A bs.flatten) (isC isR : List Nat) (hC1 : isC.map (fun i => bs[i]?) = bc.map some) (hR1 : isR.map (fun i => bs[i]?) = br.map some) (hdis : ∀ i ∈ isR, i ∉ isC) : ∀ p ∈ bc.flatten, ∀ q ∈ br.flatten, p.1 ≠ q.1 := by
  intro p hp q hq
  obtain ⟨w, hw, hpw⟩ := List.mem_flatten.mp hp
  obtain ⟨v, hv, hqv⟩ := List.mem_flatten.mp hq
  obtain ⟨k, hk⟩ := List.getElem?_of_mem hw
  obtain ⟨k2, hk2⟩ := List.getElem?_of_mem hv
  obtain ⟨i, hi, hi2⟩ := bl_at hC1 hk
  obtain ⟨j, hj, hj2⟩ := bl_at hR1 hk2
  have hij : i ≠ j := fun e => by subst e; exact hdis i (List.mem_of_getElem? hj) (List.mem_of_getElem? hi)
  have h4 := (List.pairwise_flatten.mp (va_D_pw.mp hD).1).2
  have hpw2 := List.pairwise_iff_getElem.mp h4
  obtain ⟨a1, a2⟩ := List.getElem?_eq_some_iff.mp hi2
  obtain ⟨b1, b2⟩ := List.getElem?_eq_some_iff.mp hj2
  rcases Nat.lt_or_ge i j with z | z
  · exact hpw2 i j a1 b1 z p (by rw [a2]; exact hpw) q (by rw [b2]; exact hqv)
  · exact (hpw2 j i b1 a1 (by omega) q (by rw [b2]; exact hqv) p (by rw [a2]; exact hpw)).symm
theorem RO.callB (S : CallFix p m c cc nL s args TB own) (hM : RO l y b n rt fr lo D ca (.ref a :: As) wc E) (h : CW own idx y b n rt k) (hP : va_P D classes bs.flatten H) (hK : va_K D classes (tys ca) s) (isC : List Nat) (hC1 : isC.map (fun i => bs[i]?) = bc.map some) (hbc : bc.flatten = wc) (q0 : Nat) {ci : Nat} {fs : List Value} (he : bs.flatten[q0]? = some (a, .inr (ci, fs))) (hC : (classes[ci]?).map (fun q => q.1) = some y.cls)
    (hk : As.length = k) (hst : st0 = As.reverse ++ .ref a :: rest) (hsz : ls.size = nL) (hR : fr + 1 ≤ R.frames ∧ 8 + (n + 11) + lo ≤ R.locals) (hc : cells ≤ R.cells ∧ slots ≤ R.slots) (hW : (rest.map fun v => v.category).sum ≤ 8) (hdg : decode cc pc = .ok (.invokevirtual idx, 3))
    (kk : W p l e R s m args below meth c H locs cells slots Q (F0 m (pc + 3) ls (.int E :: rest))) : W p l e R s m args below meth c H locs cells slots Q (F0 m pc ls st0) := by
  subst hst
  subst hbc
  obtain ⟨q, hq, hqC⟩ := Option.map_eq_some_iff.mp hC
  have hrv := va_recv hK hP hq he
  rw [hqC] at hrv
  refine vp_callSi (rest := rest) (W.runV (C := y.cls) S hM (CW.cw S.2.2.2.2 h hR) ⟨fun a U g mk z => ⟨z.1, z.2.1, va_K.moved (u := U) (U := U.calling g mk a) (Vm.Alike.refl U.vm) z.2.2⟩, hrv, fun U hU hW => ⟨rfl, by rw [hU]; exact hP.subB isC hC1, va_K.moved hW.alike hK⟩⟩ rfl hk hsz rfl (lv_room hW) hdg hc) (fun r hr => ?_)
  subst hr
  exact kk
theorem MI.callB (S : CallFix p m c cc nL s args TB own) (hM : MI l y b n rt fr lo D ca (.ref a :: As) wc E w') (h : CW own idx y b n rt k) (hP : va_P D classes bs.flatten H) (hD : va_D A bs.flatten) (hS : va_S A H0 H locs) (hA : ∀ q, H0.size ≤ q → A q) (hK : va_K D classes (tys ca) s) (isC isR : List Nat) (hC1 : isC.map (fun i => bs[i]?) = bc.map some) (hR1 : isR.map (fun i => bs[i]?) = br.map some) (hbc : bc.flatten = wc) (hbc' : bc'.flatten = w') (hnC : va_nd isC = true) (hnR : va_nd isR = true) (hdis : ∀ i ∈ isR, i ∉ isC) (q0 : Nat) {ci : Nat} {fs : List Value} (he : bs.flatten[q0]? = some (a, .inr (ci, fs))) (hC : (classes[ci]?).map (fun q => q.1) = some y.cls)
    (hk : As.length = k) (hst : st0 = As.reverse ++ .ref a :: rest) (hsz : ls.size = nL) (hR : fr + 1 ≤ R.frames ∧ 8 + (n + 11) + lo ≤ R.locals) (hc : cells ≤ R.cells ∧ slots ≤ R.slots) (hW : (rest.map fun v => v.category).sum ≤ 8) (hdg : decode cc pc = .ok (.invokevirtual idx, 3))
    (kk : ∀ (H1 : Heap) (locs1 : List Loc), va_P D classes (br ++ bc').flatten H1 → va_D A (br ++ bc').flatten → va_S A H0 H1 locs1 → W p l e R s m args below meth c H1 locs1 cells slots Q (F0 m (pc + 3) ls (.int E :: rest))) : W p l e R s m args below meth c H locs cells slots Q (F0 m pc ls st0) := by
  subst hst
  subst hbc
  subst hbc'
  obtain ⟨q, hq, hqC⟩ := Option.map_eq_some_iff.mp hC
  have hrv := va_recv hK hP hq he
  rw [hqC] at hrv
  have hFc := bl_free hD hS hA isC hC1
  refine va_calli (rest := rest) (va_runV (C := y.cls) S (hM H.size) (CW.cw S.2.2.2.2 h hR) ⟨fun a U g mk z => ⟨z.1, z.2.1, z.2.2.1, va_K.moved (u := U) (U := U.calling g mk a) (Vm.Alike.refl U.vm) z.2.2.2.1, z.2.2.2.2⟩, hrv, fun U hU hW => ⟨rfl, by rw [hU], by rw [hU]; exact hP.subB isC hC1, va_K.moved hW.alike hK, (hD.subB isC hnC hC1).weaken (fun _ _ _ _ => trivial)⟩⟩ rfl hk hsz rfl (lv_room hW) hdg hc) hS (fun q _ h => hFc q h) hFc (fun r u t H1 locs1 ht hvm hr hB hz1 hk1 hS => ?_)
  obtain ⟨hP1, hD1⟩ := hB
  rw [ht] at hP1
  obtain ⟨hP2, hD2⟩ := va_joinA (hP.subB isR hR1) (hD.subB isR hnR hR1) (bl_apart hD isC isR hC1 hR1 hdis) hk1 hFc hP1 hD1
  subst hr
  exact kk H1 locs1 (by rw [List.flatten_append]; exact hP2) (by rw [List.flatten_append]; exact hD2) hS
theorem MV.callB (S : CallFix p m c cc nL s args TB own) (hM : MV l y b n fr lo D ca (.ref a :: As) wc w') (h : CW own idx y b n none k) (hP : va_P D classes bs.flatten H) (hD : va_D A bs.flatten) (hS : va_S A H0 H locs) (hA : ∀ q, H0.size ≤ q → A q) (hK : va_K D classes (tys ca) s) (isC isR : List Nat) (hC1 : isC.map (fun i => bs[i]?) = bc.map some) (hR1 : isR.map (fun i => bs[i]?) = br.map some) (hbc : bc.flatten = wc) (hbc' : bc'.flatten = w') (hnC : va_nd isC = true) (hnR : va_nd isR = true) (hdis : ∀ i ∈ isR, i ∉ isC) (q0 : Nat) {ci : Nat} {fs : List Value} (he : bs.flatten[q0]? = some (a, .inr (ci, fs))) (hC : (classes[ci]?).map (fun q => q.1) = some y.cls)
    (hk : As.length = k) (hst : st0 = As.reverse ++ .ref a :: rest) (hsz : ls.size = nL) (hR : fr + 1 ≤ R.frames ∧ 8 + (n + 11) + lo ≤ R.locals) (hc : cells ≤ R.cells ∧ slots ≤ R.slots) (hW : (rest.map fun v => v.category).sum ≤ 8) (hdg : decode cc pc = .ok (.invokevirtual idx, 3))
    (kk : ∀ (H1 : Heap) (locs1 : List Loc), va_P D classes (br ++ bc').flatten H1 → va_D A (br ++ bc').flatten → va_S A H0 H1 locs1 → W p l e R s m args below meth c H1 locs1 cells slots Q (F0 m (pc + 3) ls rest)) : W p l e R s m args below meth c H locs cells slots Q (F0 m pc ls st0) := by
  subst hst
  subst hbc
  subst hbc'
  obtain ⟨q, hq, hqC⟩ := Option.map_eq_some_iff.mp hC
  have hrv := va_recv hK hP hq he
  rw [hqC] at hrv
  have hFc := bl_free hD hS hA isC hC1
  refine va_callv (rest := rest) (va_runV (C := y.cls) S (hM H.size) (CW.cw S.2.2.2.2 h hR) ⟨fun a U g mk z => ⟨z.1, z.2.1, z.2.2.1, va_K.moved (u := U) (U := U.calling g mk a) (Vm.Alike.refl U.vm) z.2.2.2.1, z.2.2.2.2⟩, hrv, fun U hU hW => ⟨rfl, by rw [hU], by rw [hU]; exact hP.subB isC hC1, va_K.moved hW.alike hK, (hD.subB isC hnC hC1).weaken (fun _ _ _ _ => trivial)⟩⟩ rfl hk hsz rfl (lv_room hW) hdg hc) hS (fun q _ h => hFc q h) hFc (fun u t H1 locs1 ht hvm hr hB hz1 hk1 hS => ?_)
  obtain ⟨hP1, hD1⟩ := hB
  rw [ht] at hP1
  obtain ⟨hP2, hD2⟩ := va_joinA (hP.subB isR hR1) (hD.subB isR hnR hR1) (bl_apart hD isC isR hC1 hR1 hdis) hk1 hFc hP1 hD1
  exact kk H1 locs1 (by rw [List.flatten_append]; exact hP2) (by rw [List.flatten_append]; exact hD2) hS
end BW
