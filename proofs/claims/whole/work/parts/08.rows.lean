/-! The Tape's cells out of one function g of numbers: 0..7 its int fields, 8, 9 the counts, 10 + 4 * row + k the arrays (k: data, sums, marks, timesRead); the model's array s is such a function itself. -/
def tb (g : Nat → Int32) : Nat → Int32 := fun j => if j < 2 then g (8 + j) else 0
def td (k : Nat) (g : Nat → Int32) : Nat → Int32 := fun r => if r < 40 then g (10 + 4 * r + k) else 0
def tf (t : Nat → Nat) (g : Nat → Int32) : List Value := [.int (g 0), .int (g 1), .int (g 2), .int (g 3), .int (g 4), .int (g 5), .int (g 6), .int (g 7), .ref (t 1), .ref (t 2), .ref (t 3), .ref (t 4), .ref (t 5)]
def tw (ca : Nat → ClassId) (t : Nat → Nat) (g : Nat → Int32) : va_W := [(t 0, .inr (1, tf t g)), (t 1, .inl (ca 0, 2, .inl (tb g))), (t 2, .inl (ca 0, 40, .inl (td 0 g))), (t 3, .inl (ca 0, 40, .inl (td 1 g))), (t 4, .inl (ca 0, 40, .inl (td 2 g))), (t 5, .inl (ca 0, 40, .inl (td 3 g)))]
def mw (ca : Nat → ClassId) (o sa : Nat) (fs : List Value) (g : Nat → Int32) : va_W := [(o, .inr (4, .ref sa :: fs)), (sa, .inl (ca 0, 170, .inl g))]
theorem tb_up {g : Nat → Int32} {k : Nat} {v : Int32} (hk : k < 8 ∨ 10 ≤ k) : tb (upd g k v) = tb g := funext fun j => by
  unfold tb
  split
  · exact pk_un (by omega)
  · rfl
theorem td_up {g : Nat → Int32} {k i : Nat} {v : Int32} (hk : k < 10) : td i (upd g k v) = td i g := funext fun j => by
  unfold td
  split
  · exact pk_un (by omega)
  · rfl
theorem td_up2 {g : Nat → Int32} {r k i : Nat} {v : Int32} (hk : k < 4) (hi : i < 4) (h : i ≠ k) : td i (upd g (10 + 4 * r + k) v) = td i g := funext fun j => by
  unfold td
  split
  · exact pk_un (by omega)
  · rfl
theorem td_set {g : Nat → Int32} {r k : Nat} {v : Int32} (hr : r < 40) : upd (td k g) r v = td k (upd g (10 + 4 * r + k) v) := funext fun j => by
  by_cases hj : j = r
  · subst hj
    rw [pk_us]
    unfold td
    rw [if_pos hr, pk_us]
  · rw [pk_un hj]
    unfold td
    split
    · rw [pk_un (by omega)]
    · rfl
theorem tb_set {g : Nat → Int32} {f : Nat} {v : Int32} (hf : f < 2) : upd (tb g) f v = tb (upd g (8 + f) v) := funext fun j => by
  by_cases hj : j = f
  · subst hj
    rw [pk_us]
    unfold tb
    rw [if_pos hf, pk_us]
  · rw [pk_un hj]
    unfold tb
    split
    · rw [pk_un (by omega)]
    · rfl
theorem tf_up {t : Nat → Nat} {g : Nat → Int32} {k : Nat} {v : Int32} (hk : 8 ≤ k) : tf t (upd g k v) = tf t g := by
  unfold tf
  rw [pk_un (by omega), pk_un (by omega), pk_un (by omega), pk_un (by omega), pk_un (by omega), pk_un (by omega), pk_un (by omega), pk_un (by omega)]
theorem tw_put {ca : Nat → ClassId} {t : Nat → Nat} {g : Nat → Int32} {k : Nat} {v : Int32} (hk : k < 8) : (tw ca t g).set 0 (t 0, .inr (1, (tf t g).set k (.int v))) = tw ca t (upd g k v) := by
  have h : (tf t g).set k (.int v) = tf t (upd g k v) := by
    rcases (show k = 0 ∨ k = 1 ∨ k = 2 ∨ k = 3 ∨ k = 4 ∨ k = 5 ∨ k = 6 ∨ k = 7 by omega) with rfl | rfl | rfl | rfl | rfl | rfl | rfl | rfl <;> rfl
  rw [h]
  unfold tw
  rw [tb_up (by omega), td_up (by omega), td_up (by omega), td_up (by omega), td_up (by omega)]
  rfl
theorem tw_setb {ca : Nat → ClassId} {t : Nat → Nat} {g : Nat → Int32} {f : Nat} {v : Int32} (hf : f < 2) : (tw ca t g).set 1 (t 1, .inl (ca 0, 2, .inl (upd (tb g) f v))) = tw ca t (upd g (8 + f) v) := by
  unfold tw
  rw [tb_set hf, tf_up (by omega), td_up (by omega), td_up (by omega), td_up (by omega), td_up (by omega)]
  rfl
theorem tw_setd {ca : Nat → ClassId} {t : Nat → Nat} {g : Nat → Int32} {r k : Nat} {v : Int32} (hr : r < 40) (hk : k < 4) : (tw ca t g).set (2 + k) (t (2 + k), .inl (ca 0, 40, .inl (upd (td k g) r v))) = tw ca t (upd g (10 + 4 * r + k) v) := by
  rw [td_set hr]
  unfold tw
  rw [tf_up (by omega), tb_up (by omega)]
  rcases (show k = 0 ∨ k = 1 ∨ k = 2 ∨ k = 3 by omega) with rfl | rfl | rfl | rfl
  · rw [td_up2 (i := 1) (by omega) (by omega) (by omega), td_up2 (i := 2) (by omega) (by omega) (by omega), td_up2 (i := 3) (by omega) (by omega) (by omega)]; rfl
  · rw [td_up2 (i := 0) (by omega) (by omega) (by omega), td_up2 (i := 2) (by omega) (by omega) (by omega), td_up2 (i := 3) (by omega) (by omega) (by omega)]; rfl
  · rw [td_up2 (i := 0) (by omega) (by omega) (by omega), td_up2 (i := 1) (by omega) (by omega) (by omega), td_up2 (i := 3) (by omega) (by omega) (by omega)]; rfl
  · rw [td_up2 (i := 0) (by omega) (by omega) (by omega), td_up2 (i := 1) (by omega) (by omega) (by omega), td_up2 (i := 2) (by omega) (by omega) (by omega)]; rfl
theorem mw_set {ca : Nat → ClassId} {o sa : Nat} {fs : List Value} {g : Nat → Int32} {k : Nat} {v : Int32} : (mw ca o sa fs g).set 1 (sa, .inl (ca 0, 170, .inl (upd g k v))) = mw ca o sa fs (upd g k v) := rfl
theorem nI_cl {n : Nat} (h : n < 2 ^ 31) : (nI n).toNatClampNeg = n := nI_clamp h
/-- the counts are numbers from 0 to 20 -/
def bn (g : Nat → Int32) (f : Nat) : Nat := (g (8 + f)).toNatClampNeg
def BN (g : Nat → Int32) : Prop := ∀ f, f < 2 → g (8 + f) = nI (bn g f) ∧ bn g f ≤ 20
section TROWS
variable {p : Program} {l : Launch} {e : Env} {R : Room} {s : State} {m : MethodId} {args : Array Value} {below : List Frame} {meth : Method} {c : Code} {H H0 : Heap} {locs : List Loc} {cells slots : Nat} {Q : State → Prop}
variable {cc : ByteArray} {pc nL : Nat} {ls : Array Slot} {rest st0 : List Value} {D : va_G} {ca : Nat → ClassId} {A : Nat → Prop} {t : Nat → Nat} {g g' : Nat → Int32} {own : String} {idx : Nat} {y : MethodName} {b : ByteArray} {n k fr lo o sa : Nat} {rt : Option FieldType} {As fs : List Value} {E : Int32}
theorem T_put (S : CallFix p m c cc nL s args TB own) (hK : va_K D classes (tys ca) s) (hP : va_P D classes (tw ca t g) H) (hD : va_D A (tw ca t g)) (hS : va_S A H0 H locs) (k : Nat) (hk : k < 8) (hlink : Cond.fieldLink own idx R_T (F_T k).2.1 (F_T k).2.2.1 ∈ TB) {v : Int32} (hdg : decode cc pc = .ok (.putfield idx, 3))
    (kk : ∀ (H1 : Heap) (locs1 : List Loc), va_P D classes (tw ca t (upd g k v)) H1 → va_D A (tw ca t (upd g k v)) → va_S A H0 H1 locs1 → W p l e R s m args below meth c H1 locs1 cells slots Q (F0 m (pc + 3) ls rest)) : W p l e R s m args below meth c H locs cells slots Q (F0 m pc ls (.int v :: .ref (t 0) :: rest)) := by
  have h1 : (F_T k).1 = R_T ∧ (F_T k).2.2.2 = false ∧ ty_T k = .int := by
    rcases (show k = 0 ∨ k = 1 ∨ k = 2 ∨ k = 3 ∨ k = 4 ∨ k = 5 ∨ k = 6 ∨ k = 7 by omega) with rfl | rfl | rfl | rfl | rfl | rfl | rfl | rfl <;> exact ⟨rfl, rfl, rfl⟩
  refine f_put S cls_T hK hP hD hS 0 rfl k (by omega) hlink h1.1 h1.2.1 (by rw [h1.2.2]; rfl) (by rw [h1.2.2]; rfl) (show k < 13 by omega) hdg (fun H1 locs1 hP hD hS => ?_)
  rw [tw_put hk] at hP hD
  exact kk H1 locs1 hP hD hS
theorem T_bl (S : CallFix p m c cc nL s args TB own) (hK : va_K D classes (tys ca) s) (hP : va_P D classes (tw ca t g) H) (hB : BN g) {f : Nat} (hf : f < 2) {i : Int32} (hi : i = nI f) (hdg : decode cc pc = .ok (.iaload, 1))
    (kk : W p l e R s m args below meth c H locs cells slots Q (F0 m (pc + 1) ls (.int (nI (bn g f)) :: rest))) : W p l e R s m args below meth c H locs cells slots Q (F0 m pc ls (.int i :: .ref (t 1) :: rest)) := by
  subst hi
  refine va_iald (D := D) S.1 S.2.1 hK hP 1 0 rfl rfl (vp_in_nI hf (by omega)) hdg (lv_tope ?_ kk)
  rw [nI_clamp (by omega)]
  unfold tb
  rw [if_pos hf]
  exact (hB f hf).1
theorem T_ar (j : Nat) (hj : j < 4) (S : CallFix p m c cc nL s args TB own) (hK : va_K D classes (tys ca) s) (hP : va_P D classes (tw ca t g) H) {r : Nat} (hr : r < 40) {i : Int32} (hi : i = nI r) (hdg : decode cc pc = .ok (.iaload, 1))
    (kk : W p l e R s m args below meth c H locs cells slots Q (F0 m (pc + 1) ls (.int (g (10 + 4 * r + j)) :: rest))) : W p l e R s m args below meth c H locs cells slots Q (F0 m pc ls (.int i :: .ref (t (2 + j)) :: rest)) := by
  subst hi
  refine va_iald (D := D) (f := td j g) S.1 S.2.1 hK hP (2 + j) 0 ?_ rfl (vp_in_nI hr (by omega)) hdg (lv_tope ?_ kk)
  · rcases (show j = 0 ∨ j = 1 ∨ j = 2 ∨ j = 3 by omega) with rfl | rfl | rfl | rfl <;> rfl
  · rw [nI_clamp (by omega)]
    unfold td
    rw [if_pos hr]
theorem T_blst (S : CallFix p m c cc nL s args TB own) (hK : va_K D classes (tys ca) s) (hP : va_P D classes (tw ca t g) H) (hD : va_D A (tw ca t g)) (hS : va_S A H0 H locs) {f : Nat} (hf : f < 2) {i v : Int32} (hi : i = nI f) (hdg : decode cc pc = .ok (.iastore, 1))
    (kk : ∀ (H1 : Heap) (locs1 : List Loc), va_P D classes (tw ca t (upd g (8 + f) v)) H1 → va_D A (tw ca t (upd g (8 + f) v)) → va_S A H0 H1 locs1 → W p l e R s m args below meth c H1 locs1 cells slots Q (F0 m (pc + 1) ls rest)) : W p l e R s m args below meth c H locs cells slots Q (F0 m pc ls (.int v :: .int i :: .ref (t 1) :: rest)) := by
  subst hi
  refine va_iast (D := D) S.1 S.2.1 hK hP hD hS 1 0 rfl rfl (vp_in_nI hf (by omega)) hdg (fun H1 locs1 hP hD hS => ?_)
  rw [nI_clamp (by omega), tw_setb hf] at hP hD
  exact kk H1 locs1 hP hD hS
theorem T_arst (j : Nat) (hj : j < 4) (S : CallFix p m c cc nL s args TB own) (hK : va_K D classes (tys ca) s) (hP : va_P D classes (tw ca t g) H) (hD : va_D A (tw ca t g)) (hS : va_S A H0 H locs) {r : Nat} (hr : r < 40) {i v : Int32} (hi : i = nI r) (hdg : decode cc pc = .ok (.iastore, 1))
    (kk : ∀ (H1 : Heap) (locs1 : List Loc), va_P D classes (tw ca t (upd g (10 + 4 * r + j) v)) H1 → va_D A (tw ca t (upd g (10 + 4 * r + j) v)) → va_S A H0 H1 locs1 → W p l e R s m args below meth c H1 locs1 cells slots Q (F0 m (pc + 1) ls rest)) : W p l e R s m args below meth c H locs cells slots Q (F0 m pc ls (.int v :: .int i :: .ref (t (2 + j)) :: rest)) := by
  subst hi
  refine va_iast (D := D) (f := td j g) S.1 S.2.1 hK hP hD hS (2 + j) 0 ?_ rfl (vp_in_nI hr (by omega)) hdg (fun H1 locs1 hP hD hS => ?_)
  · rcases (show j = 0 ∨ j = 1 ∨ j = 2 ∨ j = 3 by omega) with rfl | rfl | rfl | rfl <;> rfl
  · rw [nI_clamp (by omega), tw_setd hr hj] at hP hD
    exact kk H1 locs1 hP hD hS
theorem M_ld (S : CallFix p m c cc nL s args TB own) (hK : va_K D classes (tys ca) s) (hP : va_P D classes (mw ca o sa fs g) H) {r : Nat} (hr : r < 170) {i : Int32} (hi : i = nI r) (hdg : decode cc pc = .ok (.iaload, 1))
    (kk : W p l e R s m args below meth c H locs cells slots Q (F0 m (pc + 1) ls (.int (g r) :: rest))) : W p l e R s m args below meth c H locs cells slots Q (F0 m pc ls (.int i :: .ref sa :: rest)) := by
  subst hi
  refine va_iald (D := D) (f := g) S.1 S.2.1 hK hP 1 0 rfl rfl (vp_in_nI hr (by omega)) hdg (lv_tope ?_ kk)
  rw [nI_clamp (by omega)]
theorem M_st (S : CallFix p m c cc nL s args TB own) (hK : va_K D classes (tys ca) s) (hP : va_P D classes (mw ca o sa fs g) H) (hD : va_D A (mw ca o sa fs g)) (hS : va_S A H0 H locs) {r : Nat} (hr : r < 170) {i v : Int32} (hi : i = nI r) (hdg : decode cc pc = .ok (.iastore, 1))
    (kk : ∀ (H1 : Heap) (locs1 : List Loc), va_P D classes (mw ca o sa fs (upd g r v)) H1 → va_D A (mw ca o sa fs (upd g r v)) → va_S A H0 H1 locs1 → W p l e R s m args below meth c H1 locs1 cells slots Q (F0 m (pc + 1) ls rest)) : W p l e R s m args below meth c H locs cells slots Q (F0 m pc ls (.int v :: .int i :: .ref sa :: rest)) := by
  subst hi
  refine va_iast (D := D) (f := g) S.1 S.2.1 hK hP hD hS 1 0 rfl rfl (vp_in_nI hr (by omega)) hdg (fun H1 locs1 hP hD hS => ?_)
  rw [nI_clamp (by omega)] at hP hD
  exact kk H1 locs1 hP hD hS
/-- calls of a Tape on itself: all its cells go along -/
theorem T_ro (S : CallFix p m c cc nL s args TB own) (hM : RO l y b n rt fr lo D ca (.ref (t 0) :: As) (tw ca t g) E) (h : CW own idx y b n rt k) (hy : y.cls = R_T) (hP : va_P D classes (tw ca t g) H) (hK : va_K D classes (tys ca) s) (hk : As.length = k) (hst : st0 = As.reverse ++ .ref (t 0) :: rest) (hsz : ls.size = nL) (hR : fr + 1 ≤ R.frames ∧ 8 + (n + 11) + lo ≤ R.locals) (hc : cells ≤ R.cells ∧ slots ≤ R.slots) (hW : (rest.map fun v => v.category).sum ≤ 8) (hdg : decode cc pc = .ok (.invokevirtual idx, 3))
    (kk : W p l e R s m args below meth c H locs cells slots Q (F0 m (pc + 3) ls (.int E :: rest))) : W p l e R s m args below meth c H locs cells slots Q (F0 m pc ls st0) :=
  RO.callV S hM h hP hK [0, 1, 2, 3, 4, 5] rfl 0 (ci := 1) (fs := tf t g) rfl (by rw [hy]; rfl) hk hst hsz hR hc hW hdg kk
theorem T_ro0 (S : CallFix p m c cc nL s args TB own) (hM : RO l y b n rt fr lo D ca (.ref (t 0) :: As) [] E) (h : CW own idx y b n rt k) (hy : y.cls = R_T) (hP : va_P D classes (tw ca t g) H) (hK : va_K D classes (tys ca) s) (hk : As.length = k) (hst : st0 = As.reverse ++ .ref (t 0) :: rest) (hsz : ls.size = nL) (hR : fr + 1 ≤ R.frames ∧ 8 + (n + 11) + lo ≤ R.locals) (hc : cells ≤ R.cells ∧ slots ≤ R.slots) (hW : (rest.map fun v => v.category).sum ≤ 8) (hdg : decode cc pc = .ok (.invokevirtual idx, 3))
    (kk : W p l e R s m args below meth c H locs cells slots Q (F0 m (pc + 3) ls (.int E :: rest))) : W p l e R s m args below meth c H locs cells slots Q (F0 m pc ls st0) :=
  RO.callV S hM h hP hK [] rfl 0 (ci := 1) (fs := tf t g) rfl (by rw [hy]; rfl) hk hst hsz hR hc hW hdg kk
theorem T_mi (S : CallFix p m c cc nL s args TB own) (hM : MI l y b n rt fr lo D ca (.ref (t 0) :: As) (tw ca t g) E (tw ca t g')) (h : CW own idx y b n rt k) (hy : y.cls = R_T) (hP : va_P D classes (tw ca t g) H) (hD : va_D A (tw ca t g)) (hS : va_S A H0 H locs) (hA : ∀ q, H0.size ≤ q → A q) (hK : va_K D classes (tys ca) s) (hk : As.length = k) (hst : st0 = As.reverse ++ .ref (t 0) :: rest) (hsz : ls.size = nL) (hR : fr + 1 ≤ R.frames ∧ 8 + (n + 11) + lo ≤ R.locals) (hc : cells ≤ R.cells ∧ slots ≤ R.slots) (hW : (rest.map fun v => v.category).sum ≤ 8) (hdg : decode cc pc = .ok (.invokevirtual idx, 3))
    (kk : ∀ (H1 : Heap) (locs1 : List Loc), va_P D classes (tw ca t g') H1 → va_D A (tw ca t g') → va_S A H0 H1 locs1 → W p l e R s m args below meth c H1 locs1 cells slots Q (F0 m (pc + 3) ls (.int E :: rest))) : W p l e R s m args below meth c H locs cells slots Q (F0 m pc ls st0) :=
  MI.callV (wr := []) S hM h hP hD hS hA hK [0, 1, 2, 3, 4, 5] [] rfl rfl (by decide) rfl (fun i h => by cases h) 0 (ci := 1) (fs := tf t g) rfl (by rw [hy]; rfl) hk hst hsz hR hc hW hdg kk
/-- calls of the model on itself -/
theorem M_ro (S : CallFix p m c cc nL s args TB own) (hM : RO l y b n rt fr lo D ca (.ref o :: As) (mw ca o sa fs g) E) (h : CW own idx y b n rt k) (hy : y.cls = R_M) (hP : va_P D classes (mw ca o sa fs g) H) (hK : va_K D classes (tys ca) s) (hk : As.length = k) (hst : st0 = As.reverse ++ .ref o :: rest) (hsz : ls.size = nL) (hR : fr + 1 ≤ R.frames ∧ 8 + (n + 11) + lo ≤ R.locals) (hc : cells ≤ R.cells ∧ slots ≤ R.slots) (hW : (rest.map fun v => v.category).sum ≤ 8) (hdg : decode cc pc = .ok (.invokevirtual idx, 3))
    (kk : W p l e R s m args below meth c H locs cells slots Q (F0 m (pc + 3) ls (.int E :: rest))) : W p l e R s m args below meth c H locs cells slots Q (F0 m pc ls st0) :=
  RO.callV S hM h hP hK [0, 1] rfl 0 (ci := 4) (fs := .ref sa :: fs) rfl (by rw [hy]; rfl) hk hst hsz hR hc hW hdg kk
theorem M_mi (S : CallFix p m c cc nL s args TB own) (hM : MI l y b n rt fr lo D ca (.ref o :: As) (mw ca o sa fs g) E (mw ca o sa fs g')) (h : CW own idx y b n rt k) (hy : y.cls = R_M) (hP : va_P D classes (mw ca o sa fs g) H) (hD : va_D A (mw ca o sa fs g)) (hS : va_S A H0 H locs) (hA : ∀ q, H0.size ≤ q → A q) (hK : va_K D classes (tys ca) s) (hk : As.length = k) (hst : st0 = As.reverse ++ .ref o :: rest) (hsz : ls.size = nL) (hR : fr + 1 ≤ R.frames ∧ 8 + (n + 11) + lo ≤ R.locals) (hc : cells ≤ R.cells ∧ slots ≤ R.slots) (hW : (rest.map fun v => v.category).sum ≤ 8) (hdg : decode cc pc = .ok (.invokevirtual idx, 3))
    (kk : ∀ (H1 : Heap) (locs1 : List Loc), va_P D classes (mw ca o sa fs g') H1 → va_D A (mw ca o sa fs g') → va_S A H0 H1 locs1 → W p l e R s m args below meth c H1 locs1 cells slots Q (F0 m (pc + 3) ls (.int E :: rest))) : W p l e R s m args below meth c H locs cells slots Q (F0 m pc ls st0) :=
  MI.callV (wr := []) S hM h hP hD hS hA hK [0, 1] [] rfl rfl (by decide) rfl (fun i h => by cases h) 0 (ci := 4) (fs := .ref sa :: fs) rfl (by rw [hy]; rfl) hk hst hsz hR hc hW hdg kk
theorem M_mv (S : CallFix p m c cc nL s args TB own) (hM : MV l y b n fr lo D ca (.ref o :: As) (mw ca o sa fs g) (mw ca o sa fs g')) (h : CW own idx y b n none k) (hy : y.cls = R_M) (hP : va_P D classes (mw ca o sa fs g) H) (hD : va_D A (mw ca o sa fs g)) (hS : va_S A H0 H locs) (hA : ∀ q, H0.size ≤ q → A q) (hK : va_K D classes (tys ca) s) (hk : As.length = k) (hst : st0 = As.reverse ++ .ref o :: rest) (hsz : ls.size = nL) (hR : fr + 1 ≤ R.frames ∧ 8 + (n + 11) + lo ≤ R.locals) (hc : cells ≤ R.cells ∧ slots ≤ R.slots) (hW : (rest.map fun v => v.category).sum ≤ 8) (hdg : decode cc pc = .ok (.invokevirtual idx, 3))
    (kk : ∀ (H1 : Heap) (locs1 : List Loc), va_P D classes (mw ca o sa fs g') H1 → va_D A (mw ca o sa fs g') → va_S A H0 H1 locs1 → W p l e R s m args below meth c H1 locs1 cells slots Q (F0 m (pc + 3) ls rest)) : W p l e R s m args below meth c H locs cells slots Q (F0 m pc ls st0) :=
  MV.callV (wr := []) S hM h hP hD hS hA hK [0, 1] [] rfl rfl (by decide) rfl (fun i h => by cases h) 0 (ci := 4) (fs := .ref sa :: fs) rfl (by rw [hy]; rfl) hk hst hsz hR hc hW hdg kk
end TROWS
