/-! Constructors: the cells ws become wf u; u: what is new -/
def IN {S : Type} (l : Launch) (y : MethodName) (b : ByteArray) (n : Nat) (fr lo mc ms : Nat) (D : va_G) (ca : Nat → ClassId) (as : List Value) (ws : va_W) (wf : S → va_W) : Prop :=
  ∀ sz : Nat, Met l y (wd y b n none) (rm fr lo mc ms) (va_Pc as (fun U => U.heap.size = sz ∧ va_P D classes ws U.heap ∧ va_K D classes (tys ca) U ∧ va_D (fun _ => True) ws ∧ va_AO "TapeEnds$Tape" U)) (va_Qv (fun (_ : S) => True) (fun u t => va_P D classes (wf u) t.heap ∧ va_D (va_A ws sz) (wf u)) (va_A ws sz)) mc ms (va_A ws sz)
theorem IN.mk {S : Type} {l : Launch} {y : MethodName} {b : ByteArray} {n : Nat} {fr lo mc ms : Nat} {D : va_G} {ca : Nat → ClassId} {as : List Value} {ws : va_W} {wf : S → va_W} (hy : plainName y.cls = true) (hy1 : y.name = "<init>") (hle : (lg_sl as).length ≤ n)
    (body : ∀ (p : Program) (e : Env) (s : State) (m : MethodId) (args : Array Value) (below : List Frame) (meth : Method) (c : Code) (Q : State → Prop) (A : Nat → Prop), CallFix p m c b n s args TB y.cls → meth.name = "<init>" → va_AO "TapeEnds$Tape" s → (∀ q : Nat, s.heap.size ≤ q → A q) → va_P D classes ws s.heap → va_D A ws → va_K D classes (tys ca) s →
      (∀ (pc : Nat) (ls : Array Slot) (H : Heap) (locs : List Loc) (w : va_W) (u : S), decode b pc = .ok (.return_, 1) → w = wf u → va_P D classes w H → va_D A w → va_S A s.heap H locs → W p l e (rm fr lo mc ms) s m args below meth c H locs mc ms Q (F0 m pc ls [])) →
      ∀ ls : Array Slot, lv_has ls n (lv_args 0 as) → va_S A s.heap s.heap [] → W p l e (rm fr lo mc ms) s m args below meth c s.heap [] 0 0 Q (F0 m 0 ls [])) : IN l y b n fr lo mc ms D ca as ws wf := by
  intro sz
  refine Met.ofW (cc := b) (maxL := n) (ret := none) hy rfl ?_
  intro p e s m args below meth c s₁ B hml hv
  obtain ⟨rfl, rfl, hP, hK, hD0, hAO⟩ := hv
  have hts := atoms_spec (ws := wd y b n none) B.pre
  have hr := B.returns
  have hlocks := B.notSynchronized
  have hin : meth.name = "<init>" := ((name_of_methodNamed B.named B.method).1).trans hy1
  have hl := lv_entry as (n := n) hle
  rw [lg_entry_eq]
  generalize (lg_sl as ++ List.replicate (n - (lg_sl as).length) Slot.unset).toArray = ls at hl ⊢
  refine body p e s m _ below meth c _ (va_A ws s.heap.size) ⟨B.exec, B.bytes, hml, findClass_of_methodNamed B.named, fun w hw => hts w (List.mem_cons_of_mem _ hw)⟩ hin hAO (fun q h => Or.inr h) hP hD0.self hK ?_ ls hl va_S.rf
  intro pc ls H locs w u hd hw hP hD hS
  subst hw
  exact W.vret B.exec B.bytes hr (fun t ht _ => ⟨⟨u, rfl, trivial, by rw [ht]; exact hP, hD⟩, hS.F ht⟩) hS.2.2 hd
theorem ra_inj {s : State} {cA cB : ClassId} {ty : FieldType} (h1 : va_RA s cA ty) (h2 : va_RA s cB ty) : cA = cB := by
  cases ty with
  | object C =>
    obtain ⟨_, _, _, _, _, e1⟩ := h1
    obtain ⟨_, _, _, _, _, e2⟩ := h2
    exact Option.some.inj (e1.symm.trans e2)
  | _ => exact Option.some.inj ((show s.vm.findClass _ = some cA from h1).symm.trans h2)
section CT
variable {p : Program} {l : Launch} {e : Env} {R : Room} {s : State} {m : MethodId} {args : Array Value} {below : List Frame} {meth : Method} {c : Code} {H H0 : Heap} {locs : List Loc} {cells slots : Nat} {Q : State → Prop}
variable {cc : ByteArray} {pc nL : Nat} {ls : Array Slot} {rest st0 : List Value} {D : va_G} {ca : Nat → ClassId} {A : Nat → Prop} {a : Nat} {ws wc wr w1 : va_W} {own : String} {idx : Nat} {y : MethodName} {b : ByteArray} {n k fr lo mc ms : Nat} {As : List Value} {bs bc br : List va_W}
theorem IN.callI {T : Type} {wf : T → va_W} (S : CallFix p m c cc nL s args TB own) (hM : IN l y b n fr lo mc ms D ca (.ref a :: As) wc wf) (h : CI own idx y b n k) (hAO : va_AO "TapeEnds$Tape" s) (hP : va_P D classes ws H) (hD : va_D A ws) (hS : va_S A H0 H locs) (hA : ∀ q, H0.size ≤ q → A q) (hK : va_K D classes (tys ca) s) (isC isR : List Nat) (hC1 : isC.map (fun i => ws[i]?) = wc.map some) (hR1 : isR.map (fun i => ws[i]?) = wr.map some) (hnC : va_nd isC = true) (hnR : va_nd isR = true) (hdis : ∀ i ∈ isR, i ∉ isC)
    (hk : As.length = k) (hst : st0 = As.reverse ++ .ref a :: rest) (hsz : ls.size = nL) (hR : fr + 1 ≤ R.frames ∧ 8 + (n + 11) + lo ≤ R.locals) (hc : cells + mc ≤ R.cells ∧ slots + ms ≤ R.slots) (hW : (rest.map fun v => v.category).sum ≤ 8) (hdg : decode cc pc = .ok (.invokespecial idx, 3))
    (kk : ∀ (u : T) (H1 : Heap) (locs1 : List Loc), va_P D classes (wr ++ wf u) H1 → va_D A (wr ++ wf u) → va_S A H0 H1 locs1 → W p l e R s m args below meth c H1 locs1 (cells + mc) (slots + ms) Q (F0 m (pc + 3) ls rest)) : W p l e R s m args below meth c H locs cells slots Q (F0 m pc ls st0) := by
  subst hst
  have hFc := va_free (wc := wc) hD hS hA isC hC1
  refine va_callv (rest := rest) (va_runI S (hM H.size) (CI.cw S.2.2.2.2 h hR) ⟨fun a U g mk z => ⟨z.1, z.2.1, z.2.2.1, va_K.moved (u := U) (U := U.calling g mk a) (Vm.Alike.refl U.vm) z.2.2.2.1, z.2.2.2.2.1, va_AO.moved (u := U) (U := U.calling g mk a) (Vm.Alike.refl U.vm) z.2.2.2.2.2⟩, fun U hU hW => ⟨rfl, by rw [hU], by rw [hU]; exact hP.sub isC (fm_of hC1), va_K.moved hW.alike hK, (hD.sub isC hnC hC1).weaken (fun _ _ _ _ => trivial), va_AO.moved hW.alike hAO⟩⟩ rfl hk hsz rfl (lv_room hW) hdg hc) hS (fun q _ h => hFc q h) hFc (fun u t H1 locs1 ht hvm hr hB hz1 hk1 hS => ?_)
  obtain ⟨hP1, hD1⟩ := hB
  rw [ht] at hP1
  obtain ⟨hP, hD⟩ := va_join (wr := wr) (w1 := wf u) hP hD isC isR hC1 hR1 hnR hdis hk1 hFc hP1 hD1
  exact kk u H1 locs1 hP hD hS
theorem A_newa (S : CallFix p m c cc nL s args TB own) {ty : FieldType} (hAc : Cond.arrayClass ty ∈ TB) {atype : ArrayType} (hty : newarray.typeOf atype = ty) (hK : va_K D classes (tys ca) s) (hP : va_P D classes ws H) (hD : va_D A ws) (hS : va_S A H0 H locs) (hA : ∀ q, H0.size ≤ q → A q) (t0 : Nat) {c0 : ClassId} (ht : (tys ca)[t0]? = some (c0, ty))
    {n : Int32} {N' : Nat} {a0 : vp_A} (ha : ∀ cA : ClassId, vp_cell cA a0 = arrV cA N' (fun _ => defaultValue ty)) (hn : ¬ n < 0) (hN : n.toNatClampNeg = N') (hbytes : N' * componentBytes ty ≤ 536870912) (hcells : cells + 1 ≤ R.cells) (hslots : slots + N' ≤ R.slots) (hdg : decode cc pc = .ok (.newarray atype, 2))
    (kk : ∀ (q : Nat) (H1 : Heap), va_P D classes (ws ++ [(q, .inl (c0, a0))]) H1 → va_D A (ws ++ [(q, .inl (c0, a0))]) → va_S A H0 H1 locs → W p l e R s m args below meth c H1 locs (cells + 1) (slots + N') Q (F0 m (pc + 2) ls (.ref q :: rest))) : W p l e R s m args below meth c H locs cells slots Q (F0 m pc ls (.int n :: rest)) :=
  va_newa S.1 S.2.1 (by rw [hty]; exact S.2.2.2.2 _ hAc) hty hK hP hD hS hA ha hn hN hbytes hcells hslots hdg (fun q cA H1 hK1 hP1 hD1 hS1 => by
    obtain rfl : c0 = cA := ra_inj (hK.2 t0 _ ht).2 (hK1.2 4 (cA, ty) rfl).2
    exact kk q H1 hP1 hD1 hS1)
theorem A_newq (S : CallFix p m c cc nL s args TB own) (hlk : Cond.classLink own idx "TapeEnds$Tape" ∈ TB) (hAO : va_AO "TapeEnds$Tape" s) (hK : va_K D classes (tys ca) s) (hP : va_P D classes ws H) (hD : va_D A ws) (hS : va_S A H0 H locs) (hA : ∀ q, H0.size ≤ q → A q)
    {n : Int32} {N' : Nat} (hn : ¬ n < 0) (hN : n.toNatClampNeg = N') (hbytes : N' * 4 ≤ 536870912) (hcells : cells + 1 ≤ R.cells) (hslots : slots + N' ≤ R.slots) (hdg : decode cc pc = .ok (.anewarray idx, 3))
    (kk : ∀ (q : Nat) (H1 : Heap), va_P D classes (ws ++ [(q, .inl (ca 3, N', .inr (.inr (.inr (.inr (fun _ => none))))))]) H1 → va_D A (ws ++ [(q, .inl (ca 3, N', .inr (.inr (.inr (.inr (fun _ => none))))))]) → va_S A H0 H1 locs → W p l e R s m args below meth c H1 locs (cells + 1) (slots + N') Q (F0 m (pc + 3) ls (.ref q :: rest))) : W p l e R s m args below meth c H locs cells slots Q (F0 m pc ls (.int n :: rest)) :=
  va_newq S.1 S.2.1 S.2.2.2.1 (S.2.2.2.2 _ hlk) hAO hK hP hD hS hA hn hN hbytes hcells hslots hdg (fun q cA H1 hK1 hP1 hD1 hS1 => by
    obtain rfl : ca 3 = cA := ra_inj (hK.2 3 _ rfl).2 (hK1.2 4 (cA, .object "TapeEnds$Tape") rfl).2
    exact kk q H1 hP1 hD1 hS1)
theorem o_new {ci N : Nat} {C : String} {T : u_T} {t : Nat → FieldType} {fs : List Value} (S : CallFix p m c cc nL s args TB own) (hcl : ClsOK ci C T t N) (hlk : Cond.classLink own idx C ∈ TB) (hin : Cond.instantiable C N ∈ TB) (hini : Cond.initialized C ∈ TB) (hK : va_K D classes (tys ca) s) (hP : va_P D classes ws H) (hD : va_D A ws) (hS : va_S A H0 H locs) (hA : ∀ q, H0.size ≤ q → A q) (hfs : ∀ j, j < N → defaultValue (t j) = vp_V fs j) (hcells : cells + 1 ≤ R.cells) (hslots : slots + N ≤ R.slots) (hdg : decode cc pc = .ok (.new idx, 3))
    (kk : ∀ (q : Nat) (H1 : Heap), va_P D classes (ws ++ [(q, .inr (ci, fs))]) H1 → va_D A (ws ++ [(q, .inr (ci, fs))]) → va_S A H0 H1 locs → W p l e R s m args below meth c H1 locs (cells + 1) (slots + N) Q (F0 m (pc + 3) ls (.ref q :: rest))) : W p l e R s m args below meth c H locs cells slots Q (F0 m pc ls rest) :=
  va_new S.1 S.2.1 S.2.2.2.2 hcl.2.1 t hcl.2.2.1 S.2.2.2.1 (S.2.2.2.2 _ hlk) (S.2.2.2.2 _ hin) (S.2.2.2.2 _ hini) hK hP hD hS hA hcl.1 hfs hcells hslots hdg kk
end CT
/-- the tape of a new object -/
def gI : Nat → Int32 := fun j => if j = 0 then 600 else if j = 1 then 10 else if j = 2 then 2 else 0
theorem tb_gI : tb gI = fun _ => 0 := funext fun j => by
  unfold tb
  split
  · unfold gI; rw [if_neg (by omega), if_neg (by omega), if_neg (by omega)]
  · rfl
theorem td_gI (k : Nat) : td k gI = fun _ => 0 := funext fun j => by
  unfold td
  split
  · unfold gI; rw [if_neg (by omega), if_neg (by omega), if_neg (by omega)]
  · rfl
def tA (o : Nat) (u : Nat → Nat) : Nat → Nat := fun j => if j = 0 then o else u j
def five (a b c d e : Nat) : Nat → Nat := fun j => if j = 1 then a else if j = 2 then b else if j = 3 then c else if j = 4 then d else e
theorem tw_new {ca : Nat → ClassId} {o a b c d e : Nat} : [(o, .inr (1, [.int 600, .int 10, .int 2, .int 0, .int 0, .int 0, .int 0, .int 0, .ref a, .ref b, .ref c, .ref d, .ref e])), (a, .inl (ca 0, 2, .inl (fun _ => 0))), (b, .inl (ca 0, 40, .inl (fun _ => 0))), (c, .inl (ca 0, 40, .inl (fun _ => 0))), (d, .inl (ca 0, 40, .inl (fun _ => 0))), (e, .inl (ca 0, 40, .inl (fun _ => 0)))] = tw ca (tA o (five a b c d e)) gI := by
  unfold tw
  rw [tb_gI, td_gI, td_gI, td_gI, td_gI]
  rfl
set_option maxHeartbeats 4000000 in
set_option maxRecDepth 100000 in
theorem c_T_init (l : Launch) (D : va_G) (ca : Nat → ClassId) (o : Nat) : IN (S := Nat → Nat) l y_T_init b_T_init 1 1 20 5 162 D ca [.ref o] [(o, .inr (1, [.int 0, .int 0, .int 0, .int 0, .int 0, .int 0, .int 0, .int 0, .null, .null, .null, .null, .null]))] (fun u => tw ca (tA o u) gI) := by
  refine IN.mk rfl rfl (Nat.le_of_ble_eq_true rfl) ?_
  intro p e s m args below meth c Q A S hin hAO hA hP hD hK
  obtain ⟨hx, hb, hml, hown, hts⟩ := id S
  intro hret ls hl0 hS
  have hl : lv_has ls 1 [(0, .ref o)] := hl0
  refine lv_aload_n hx hb d_T_init_0 rfl (lv_at hl 0 rfl) ?_
  refine W.objInit hx hb hown (hts _ kx_T_3) (hts _ xi_Object_init) (hts _ xc_Object_init) rfl (by rw [hml]; exact hl.1) rfl d_T_init_1 (Nat.le_of_ble_eq_true rfl) (Nat.le_of_ble_eq_true rfl) ?_
  refine W.eq (g2 := F0 m 4 ls []) rfl ?_
  refine lv_aload_n hx hb d_T_init_4 rfl (lv_at hl 0 rfl) ?_
  refine lv_sipush (v := 600) hx hb d_T_init_5 (by decide) ?_
  refine f_put S cls_T hK hP hD hS 0 rfl 0 (by decide) fl_T_feet rfl rfl (rfl) (rfl) (Nat.le_of_ble_eq_true rfl) d_T_init_8 (fun H locs hP hD hS => ?_)
  have hP : va_P D classes [(o, .inr (1, [.int 600, .int 0, .int 0, .int 0, .int 0, .int 0, .int 0, .int 0, .null, .null, .null, .null, .null]))] H := hP
  have hD : va_D A [(o, .inr (1, [.int 600, .int 0, .int 0, .int 0, .int 0, .int 0, .int 0, .int 0, .null, .null, .null, .null, .null]))] := hD
  refine lv_aload_n hx hb d_T_init_11 rfl (lv_at hl 0 rfl) ?_
  refine lv_bipush (v := 10) hx hb d_T_init_12 (by decide) ?_
  refine f_put S cls_T hK hP hD hS 0 rfl 1 (by decide) fl_T_leastGap rfl rfl (rfl) (rfl) (Nat.le_of_ble_eq_true rfl) d_T_init_14 (fun H locs hP hD hS => ?_)
  have hP : va_P D classes [(o, .inr (1, [.int 600, .int 10, .int 0, .int 0, .int 0, .int 0, .int 0, .int 0, .null, .null, .null, .null, .null]))] H := hP
  have hD : va_D A [(o, .inr (1, [.int 600, .int 10, .int 0, .int 0, .int 0, .int 0, .int 0, .int 0, .null, .null, .null, .null, .null]))] := hD
  refine lv_aload_n hx hb d_T_init_17 rfl (lv_at hl 0 rfl) ?_
  refine lv_iconst (v := 2) hx hb d_T_init_18 (by decide) ?_
  refine f_put S cls_T hK hP hD hS 0 rfl 2 (by decide) fl_T_mark rfl rfl (rfl) (rfl) (Nat.le_of_ble_eq_true rfl) d_T_init_19 (fun H locs hP hD hS => ?_)
  have hP : va_P D classes [(o, .inr (1, [.int 600, .int 10, .int 2, .int 0, .int 0, .int 0, .int 0, .int 0, .null, .null, .null, .null, .null]))] H := hP
  have hD : va_D A [(o, .inr (1, [.int 600, .int 10, .int 2, .int 0, .int 0, .int 0, .int 0, .int 0, .null, .null, .null, .null, .null]))] := hD
  refine lv_aload_n hx hb d_T_init_22 rfl (lv_at hl 0 rfl) ?_
  refine lv_iconst (v := 0) hx hb d_T_init_23 (by decide) ?_
  refine f_put S cls_T hK hP hD hS 0 rfl 3 (by decide) fl_T_head rfl rfl (rfl) (rfl) (Nat.le_of_ble_eq_true rfl) d_T_init_24 (fun H locs hP hD hS => ?_)
  have hP : va_P D classes [(o, .inr (1, [.int 600, .int 10, .int 2, .int 0, .int 0, .int 0, .int 0, .int 0, .null, .null, .null, .null, .null]))] H := hP
  have hD : va_D A [(o, .inr (1, [.int 600, .int 10, .int 2, .int 0, .int 0, .int 0, .int 0, .int 0, .null, .null, .null, .null, .null]))] := hD
  refine lv_aload_n hx hb d_T_init_27 rfl (lv_at hl 0 rfl) ?_
  refine lv_iconst (v := 0) hx hb d_T_init_28 (by decide) ?_
  refine f_put S cls_T hK hP hD hS 0 rfl 4 (by decide) fl_T_splices rfl rfl (rfl) (rfl) (Nat.le_of_ble_eq_true rfl) d_T_init_29 (fun H locs hP hD hS => ?_)
  have hP : va_P D classes [(o, .inr (1, [.int 600, .int 10, .int 2, .int 0, .int 0, .int 0, .int 0, .int 0, .null, .null, .null, .null, .null]))] H := hP
  have hD : va_D A [(o, .inr (1, [.int 600, .int 10, .int 2, .int 0, .int 0, .int 0, .int 0, .int 0, .null, .null, .null, .null, .null]))] := hD
  refine lv_aload_n hx hb d_T_init_32 rfl (lv_at hl 0 rfl) ?_
  refine lv_iconst (v := 0) hx hb d_T_init_33 (by decide) ?_
  refine f_put S cls_T hK hP hD hS 0 rfl 5 (by decide) fl_T_feetTakenOut rfl rfl (rfl) (rfl) (Nat.le_of_ble_eq_true rfl) d_T_init_34 (fun H locs hP hD hS => ?_)
  have hP : va_P D classes [(o, .inr (1, [.int 600, .int 10, .int 2, .int 0, .int 0, .int 0, .int 0, .int 0, .null, .null, .null, .null, .null]))] H := hP
  have hD : va_D A [(o, .inr (1, [.int 600, .int 10, .int 2, .int 0, .int 0, .int 0, .int 0, .int 0, .null, .null, .null, .null, .null]))] := hD
  refine lv_aload_n hx hb d_T_init_37 rfl (lv_at hl 0 rfl) ?_
  refine lv_iconst (v := 0) hx hb d_T_init_38 (by decide) ?_
  refine f_put S cls_T hK hP hD hS 0 rfl 6 (by decide) fl_T_travel rfl rfl (rfl) (rfl) (Nat.le_of_ble_eq_true rfl) d_T_init_39 (fun H locs hP hD hS => ?_)
  have hP : va_P D classes [(o, .inr (1, [.int 600, .int 10, .int 2, .int 0, .int 0, .int 0, .int 0, .int 0, .null, .null, .null, .null, .null]))] H := hP
  have hD : va_D A [(o, .inr (1, [.int 600, .int 10, .int 2, .int 0, .int 0, .int 0, .int 0, .int 0, .null, .null, .null, .null, .null]))] := hD
  refine lv_aload_n hx hb d_T_init_42 rfl (lv_at hl 0 rfl) ?_
  refine lv_iconst (v := 0) hx hb d_T_init_43 (by decide) ?_
  refine f_put S cls_T hK hP hD hS 0 rfl 7 (by decide) fl_T_blocksRead rfl rfl (rfl) (rfl) (Nat.le_of_ble_eq_true rfl) d_T_init_44 (fun H locs hP hD hS => ?_)
  have hP : va_P D classes [(o, .inr (1, [.int 600, .int 10, .int 2, .int 0, .int 0, .int 0, .int 0, .int 0, .null, .null, .null, .null, .null]))] H := hP
  have hD : va_D A [(o, .inr (1, [.int 600, .int 10, .int 2, .int 0, .int 0, .int 0, .int 0, .int 0, .null, .null, .null, .null, .null]))] := hD
  refine lv_aload_n hx hb d_T_init_47 rfl (lv_at hl 0 rfl) ?_
  refine lv_iconst (v := 2) hx hb d_T_init_48 (by decide) ?_
  refine A_newa S ac_int rfl hK hP hD hS hA 0 rfl (N' := 2) (a0 := (2, .inl (fun _ => 0))) (fun _ => rfl) (by decide) rfl (by decide) (Nat.le_of_ble_eq_true rfl) (Nat.le_of_ble_eq_true rfl) d_T_init_49 (fun q1 H hP hD hS => ?_)
  have hP : va_P D classes [(o, .inr (1, [.int 600, .int 10, .int 2, .int 0, .int 0, .int 0, .int 0, .int 0, .null, .null, .null, .null, .null])), (q1, .inl (ca 0, 2, .inl (fun _ => 0)))] H := hP
  have hD : va_D A [(o, .inr (1, [.int 600, .int 10, .int 2, .int 0, .int 0, .int 0, .int 0, .int 0, .null, .null, .null, .null, .null])), (q1, .inl (ca 0, 2, .inl (fun _ => 0)))] := hD
  refine f_putF S cls_T hK hP hD hS 0 rfl 8 (by decide) fl_T_blocks rfl rfl hin rfl (rfl) (rfl) (Nat.le_of_ble_eq_true rfl) d_T_init_51 (fun H locs hP hD hS => ?_)
  have hP : va_P D classes [(o, .inr (1, [.int 600, .int 10, .int 2, .int 0, .int 0, .int 0, .int 0, .int 0, .ref q1, .null, .null, .null, .null])), (q1, .inl (ca 0, 2, .inl (fun _ => 0)))] H := hP
  have hD : va_D A [(o, .inr (1, [.int 600, .int 10, .int 2, .int 0, .int 0, .int 0, .int 0, .int 0, .ref q1, .null, .null, .null, .null])), (q1, .inl (ca 0, 2, .inl (fun _ => 0)))] := hD
  refine lv_aload_n hx hb d_T_init_54 rfl (lv_at hl 0 rfl) ?_
  refine lv_bipush (v := 40) hx hb d_T_init_55 (by decide) ?_
  refine A_newa S ac_int rfl hK hP hD hS hA 0 rfl (N' := 40) (a0 := (40, .inl (fun _ => 0))) (fun _ => rfl) (by decide) rfl (by decide) (Nat.le_of_ble_eq_true rfl) (Nat.le_of_ble_eq_true rfl) d_T_init_57 (fun q2 H hP hD hS => ?_)
  have hP : va_P D classes [(o, .inr (1, [.int 600, .int 10, .int 2, .int 0, .int 0, .int 0, .int 0, .int 0, .ref q1, .null, .null, .null, .null])), (q1, .inl (ca 0, 2, .inl (fun _ => 0))), (q2, .inl (ca 0, 40, .inl (fun _ => 0)))] H := hP
  have hD : va_D A [(o, .inr (1, [.int 600, .int 10, .int 2, .int 0, .int 0, .int 0, .int 0, .int 0, .ref q1, .null, .null, .null, .null])), (q1, .inl (ca 0, 2, .inl (fun _ => 0))), (q2, .inl (ca 0, 40, .inl (fun _ => 0)))] := hD
  refine f_putF S cls_T hK hP hD hS 0 rfl 9 (by decide) fl_T_data rfl rfl hin rfl (rfl) (rfl) (Nat.le_of_ble_eq_true rfl) d_T_init_59 (fun H locs hP hD hS => ?_)
  have hP : va_P D classes [(o, .inr (1, [.int 600, .int 10, .int 2, .int 0, .int 0, .int 0, .int 0, .int 0, .ref q1, .ref q2, .null, .null, .null])), (q1, .inl (ca 0, 2, .inl (fun _ => 0))), (q2, .inl (ca 0, 40, .inl (fun _ => 0)))] H := hP
  have hD : va_D A [(o, .inr (1, [.int 600, .int 10, .int 2, .int 0, .int 0, .int 0, .int 0, .int 0, .ref q1, .ref q2, .null, .null, .null])), (q1, .inl (ca 0, 2, .inl (fun _ => 0))), (q2, .inl (ca 0, 40, .inl (fun _ => 0)))] := hD
  refine lv_aload_n hx hb d_T_init_62 rfl (lv_at hl 0 rfl) ?_
  refine lv_bipush (v := 40) hx hb d_T_init_63 (by decide) ?_
  refine A_newa S ac_int rfl hK hP hD hS hA 0 rfl (N' := 40) (a0 := (40, .inl (fun _ => 0))) (fun _ => rfl) (by decide) rfl (by decide) (Nat.le_of_ble_eq_true rfl) (Nat.le_of_ble_eq_true rfl) d_T_init_65 (fun q3 H hP hD hS => ?_)
  have hP : va_P D classes [(o, .inr (1, [.int 600, .int 10, .int 2, .int 0, .int 0, .int 0, .int 0, .int 0, .ref q1, .ref q2, .null, .null, .null])), (q1, .inl (ca 0, 2, .inl (fun _ => 0))), (q2, .inl (ca 0, 40, .inl (fun _ => 0))), (q3, .inl (ca 0, 40, .inl (fun _ => 0)))] H := hP
  have hD : va_D A [(o, .inr (1, [.int 600, .int 10, .int 2, .int 0, .int 0, .int 0, .int 0, .int 0, .ref q1, .ref q2, .null, .null, .null])), (q1, .inl (ca 0, 2, .inl (fun _ => 0))), (q2, .inl (ca 0, 40, .inl (fun _ => 0))), (q3, .inl (ca 0, 40, .inl (fun _ => 0)))] := hD
  refine f_putF S cls_T hK hP hD hS 0 rfl 10 (by decide) fl_T_sums rfl rfl hin rfl (rfl) (rfl) (Nat.le_of_ble_eq_true rfl) d_T_init_67 (fun H locs hP hD hS => ?_)
  have hP : va_P D classes [(o, .inr (1, [.int 600, .int 10, .int 2, .int 0, .int 0, .int 0, .int 0, .int 0, .ref q1, .ref q2, .ref q3, .null, .null])), (q1, .inl (ca 0, 2, .inl (fun _ => 0))), (q2, .inl (ca 0, 40, .inl (fun _ => 0))), (q3, .inl (ca 0, 40, .inl (fun _ => 0)))] H := hP
  have hD : va_D A [(o, .inr (1, [.int 600, .int 10, .int 2, .int 0, .int 0, .int 0, .int 0, .int 0, .ref q1, .ref q2, .ref q3, .null, .null])), (q1, .inl (ca 0, 2, .inl (fun _ => 0))), (q2, .inl (ca 0, 40, .inl (fun _ => 0))), (q3, .inl (ca 0, 40, .inl (fun _ => 0)))] := hD
  refine lv_aload_n hx hb d_T_init_70 rfl (lv_at hl 0 rfl) ?_
  refine lv_bipush (v := 40) hx hb d_T_init_71 (by decide) ?_
  refine A_newa S ac_int rfl hK hP hD hS hA 0 rfl (N' := 40) (a0 := (40, .inl (fun _ => 0))) (fun _ => rfl) (by decide) rfl (by decide) (Nat.le_of_ble_eq_true rfl) (Nat.le_of_ble_eq_true rfl) d_T_init_73 (fun q4 H hP hD hS => ?_)
  have hP : va_P D classes [(o, .inr (1, [.int 600, .int 10, .int 2, .int 0, .int 0, .int 0, .int 0, .int 0, .ref q1, .ref q2, .ref q3, .null, .null])), (q1, .inl (ca 0, 2, .inl (fun _ => 0))), (q2, .inl (ca 0, 40, .inl (fun _ => 0))), (q3, .inl (ca 0, 40, .inl (fun _ => 0))), (q4, .inl (ca 0, 40, .inl (fun _ => 0)))] H := hP
  have hD : va_D A [(o, .inr (1, [.int 600, .int 10, .int 2, .int 0, .int 0, .int 0, .int 0, .int 0, .ref q1, .ref q2, .ref q3, .null, .null])), (q1, .inl (ca 0, 2, .inl (fun _ => 0))), (q2, .inl (ca 0, 40, .inl (fun _ => 0))), (q3, .inl (ca 0, 40, .inl (fun _ => 0))), (q4, .inl (ca 0, 40, .inl (fun _ => 0)))] := hD
  refine f_putF S cls_T hK hP hD hS 0 rfl 11 (by decide) fl_T_marks rfl rfl hin rfl (rfl) (rfl) (Nat.le_of_ble_eq_true rfl) d_T_init_75 (fun H locs hP hD hS => ?_)
  have hP : va_P D classes [(o, .inr (1, [.int 600, .int 10, .int 2, .int 0, .int 0, .int 0, .int 0, .int 0, .ref q1, .ref q2, .ref q3, .ref q4, .null])), (q1, .inl (ca 0, 2, .inl (fun _ => 0))), (q2, .inl (ca 0, 40, .inl (fun _ => 0))), (q3, .inl (ca 0, 40, .inl (fun _ => 0))), (q4, .inl (ca 0, 40, .inl (fun _ => 0)))] H := hP
  have hD : va_D A [(o, .inr (1, [.int 600, .int 10, .int 2, .int 0, .int 0, .int 0, .int 0, .int 0, .ref q1, .ref q2, .ref q3, .ref q4, .null])), (q1, .inl (ca 0, 2, .inl (fun _ => 0))), (q2, .inl (ca 0, 40, .inl (fun _ => 0))), (q3, .inl (ca 0, 40, .inl (fun _ => 0))), (q4, .inl (ca 0, 40, .inl (fun _ => 0)))] := hD
  refine lv_aload_n hx hb d_T_init_78 rfl (lv_at hl 0 rfl) ?_
  refine lv_bipush (v := 40) hx hb d_T_init_79 (by decide) ?_
  refine A_newa S ac_int rfl hK hP hD hS hA 0 rfl (N' := 40) (a0 := (40, .inl (fun _ => 0))) (fun _ => rfl) (by decide) rfl (by decide) (Nat.le_of_ble_eq_true rfl) (Nat.le_of_ble_eq_true rfl) d_T_init_81 (fun q5 H hP hD hS => ?_)
  have hP : va_P D classes [(o, .inr (1, [.int 600, .int 10, .int 2, .int 0, .int 0, .int 0, .int 0, .int 0, .ref q1, .ref q2, .ref q3, .ref q4, .null])), (q1, .inl (ca 0, 2, .inl (fun _ => 0))), (q2, .inl (ca 0, 40, .inl (fun _ => 0))), (q3, .inl (ca 0, 40, .inl (fun _ => 0))), (q4, .inl (ca 0, 40, .inl (fun _ => 0))), (q5, .inl (ca 0, 40, .inl (fun _ => 0)))] H := hP
  have hD : va_D A [(o, .inr (1, [.int 600, .int 10, .int 2, .int 0, .int 0, .int 0, .int 0, .int 0, .ref q1, .ref q2, .ref q3, .ref q4, .null])), (q1, .inl (ca 0, 2, .inl (fun _ => 0))), (q2, .inl (ca 0, 40, .inl (fun _ => 0))), (q3, .inl (ca 0, 40, .inl (fun _ => 0))), (q4, .inl (ca 0, 40, .inl (fun _ => 0))), (q5, .inl (ca 0, 40, .inl (fun _ => 0)))] := hD
  refine f_putF S cls_T hK hP hD hS 0 rfl 12 (by decide) fl_T_timesRead rfl rfl hin rfl (rfl) (rfl) (Nat.le_of_ble_eq_true rfl) d_T_init_83 (fun H locs hP hD hS => ?_)
  have hP : va_P D classes [(o, .inr (1, [.int 600, .int 10, .int 2, .int 0, .int 0, .int 0, .int 0, .int 0, .ref q1, .ref q2, .ref q3, .ref q4, .ref q5])), (q1, .inl (ca 0, 2, .inl (fun _ => 0))), (q2, .inl (ca 0, 40, .inl (fun _ => 0))), (q3, .inl (ca 0, 40, .inl (fun _ => 0))), (q4, .inl (ca 0, 40, .inl (fun _ => 0))), (q5, .inl (ca 0, 40, .inl (fun _ => 0)))] H := hP
  have hD : va_D A [(o, .inr (1, [.int 600, .int 10, .int 2, .int 0, .int 0, .int 0, .int 0, .int 0, .ref q1, .ref q2, .ref q3, .ref q4, .ref q5])), (q1, .inl (ca 0, 2, .inl (fun _ => 0))), (q2, .inl (ca 0, 40, .inl (fun _ => 0))), (q3, .inl (ca 0, 40, .inl (fun _ => 0))), (q4, .inl (ca 0, 40, .inl (fun _ => 0))), (q5, .inl (ca 0, 40, .inl (fun _ => 0)))] := hD
  exact hret _ _ _ _ _ (five q1 q2 q3 q4 q5) d_T_init_86 tw_new hP hD hS
set_option maxHeartbeats 4000000 in
set_option maxRecDepth 100000 in
theorem c_P_init (l : Launch) (D : va_G) (ca : Nat → ClassId) (o : Nat) : IN (S := Nat) l y_P_init b_P_init 1 1 20 1 80 D ca [.ref o] [(o, .inr (2, [.null, .int 0]))] (fun u => [(o, .inr (2, [.ref u, .int 0])), (u, .inl (ca 2, 80, .inl (fun _ => 0)))]) := by
  refine IN.mk rfl rfl (Nat.le_of_ble_eq_true rfl) ?_
  intro p e s m args below meth c Q A S hin hAO hA hP hD hK
  obtain ⟨hx, hb, hml, hown, hts⟩ := id S
  intro hret ls hl0 hS
  have hl : lv_has ls 1 [(0, .ref o)] := hl0
  refine lv_aload_n hx hb d_P_init_0 rfl (lv_at hl 0 rfl) ?_
  refine W.objInit hx hb hown (hts _ kx_P_3) (hts _ xi_Object_init) (hts _ xc_Object_init) rfl (by rw [hml]; exact hl.1) rfl d_P_init_1 (Nat.le_of_ble_eq_true rfl) (Nat.le_of_ble_eq_true rfl) ?_
  refine W.eq (g2 := F0 m 4 ls []) rfl ?_
  refine lv_aload_n hx hb d_P_init_4 rfl (lv_at hl 0 rfl) ?_
  refine lv_bipush (v := 80) hx hb d_P_init_5 (by decide) ?_
  refine A_newa S ac_char rfl hK hP hD hS hA 2 rfl (N' := 80) (a0 := (80, .inl (fun _ => 0))) (fun _ => rfl) (by decide) rfl (by decide) (Nat.le_of_ble_eq_true rfl) (Nat.le_of_ble_eq_true rfl) d_P_init_7 (fun q1 H hP hD hS => ?_)
  have hP : va_P D classes [(o, .inr (2, [.null, .int 0])), (q1, .inl (ca 2, 80, .inl (fun _ => 0)))] H := hP
  have hD : va_D A [(o, .inr (2, [.null, .int 0])), (q1, .inl (ca 2, 80, .inl (fun _ => 0)))] := hD
  refine f_putF S cls_P hK hP hD hS 0 rfl 0 (by decide) fl_P_text rfl rfl hin rfl (rfl) (rfl) (Nat.le_of_ble_eq_true rfl) d_P_init_9 (fun H locs hP hD hS => ?_)
  have hP : va_P D classes [(o, .inr (2, [.ref q1, .int 0])), (q1, .inl (ca 2, 80, .inl (fun _ => 0)))] H := hP
  have hD : va_D A [(o, .inr (2, [.ref q1, .int 0])), (q1, .inl (ca 2, 80, .inl (fun _ => 0)))] := hD
  refine lv_aload_n hx hb d_P_init_12 rfl (lv_at hl 0 rfl) ?_
  refine lv_iconst (v := 0) hx hb d_P_init_13 (by decide) ?_
  refine f_put S cls_P hK hP hD hS 0 rfl 1 (by decide) fl_P_size rfl rfl (rfl) (rfl) (Nat.le_of_ble_eq_true rfl) d_P_init_14 (fun H locs hP hD hS => ?_)
  have hP : va_P D classes [(o, .inr (2, [.ref q1, .int 0])), (q1, .inl (ca 2, 80, .inl (fun _ => 0)))] H := hP
  have hD : va_D A [(o, .inr (2, [.ref q1, .int 0])), (q1, .inl (ca 2, 80, .inl (fun _ => 0)))] := hD
  exact hret _ _ _ _ _ q1 d_P_init_17 rfl hP hD hS
set_option maxHeartbeats 4000000 in
set_option maxRecDepth 100000 in
theorem c_R_init (l : Launch) (D : va_G) (ca : Nat → ClassId) (o po : Nat) : IN (S := Unit) l y_R_init b_R_init 2 1 20 0 0 D ca [.ref o, .ref po] [(o, .inr (3, [.null, .int 0, .int 0, .int 0, .int 0, .int 0, .int 0, .int 0]))] (fun u => [(o, .inr (3, [.ref po, .int 0, .int 0, .int 0, .int 0, .int 0, .int 0, .int 0]))]) := by
  refine IN.mk rfl rfl (Nat.le_of_ble_eq_true rfl) ?_
  intro p e s m args below meth c Q A S hin hAO hA hP hD hK
  obtain ⟨hx, hb, hml, hown, hts⟩ := id S
  intro hret ls hl0 hS
  have hl : lv_has ls 2 [(0, .ref o), (1, .ref po)] := hl0
  refine lv_aload_n hx hb d_R_init_0 rfl (lv_at hl 0 rfl) ?_
  refine W.objInit hx hb hown (hts _ kx_R_5) (hts _ xi_Object_init) (hts _ xc_Object_init) rfl (by rw [hml]; exact hl.1) rfl d_R_init_1 (Nat.le_of_ble_eq_true rfl) (Nat.le_of_ble_eq_true rfl) ?_
  refine W.eq (g2 := F0 m 4 ls []) rfl ?_
  refine lv_aload_n hx hb d_R_init_4 rfl (lv_at hl 0 rfl) ?_
  refine lv_aload_n hx hb d_R_init_5 rfl (lv_at hl 1 rfl) ?_
  refine f_putF S cls_R hK hP hD hS 0 rfl 0 (by decide) fl_R_pad rfl rfl hin rfl (rfl) (rfl) (Nat.le_of_ble_eq_true rfl) d_R_init_6 (fun H locs hP hD hS => ?_)
  have hP : va_P D classes [(o, .inr (3, [.ref po, .int 0, .int 0, .int 0, .int 0, .int 0, .int 0, .int 0]))] H := hP
  have hD : va_D A [(o, .inr (3, [.ref po, .int 0, .int 0, .int 0, .int 0, .int 0, .int 0, .int 0]))] := hD
  refine lv_aload_n hx hb d_R_init_9 rfl (lv_at hl 0 rfl) ?_
  refine lv_iconst (v := 0) hx hb d_R_init_10 (by decide) ?_
  refine f_put S cls_R hK hP hD hS 0 rfl 1 (by decide) fl_R_position rfl rfl (rfl) (rfl) (Nat.le_of_ble_eq_true rfl) d_R_init_11 (fun H locs hP hD hS => ?_)
  have hP : va_P D classes [(o, .inr (3, [.ref po, .int 0, .int 0, .int 0, .int 0, .int 0, .int 0, .int 0]))] H := hP
  have hD : va_D A [(o, .inr (3, [.ref po, .int 0, .int 0, .int 0, .int 0, .int 0, .int 0, .int 0]))] := hD
  refine lv_aload_n hx hb d_R_init_14 rfl (lv_at hl 0 rfl) ?_
  refine lv_iconst (v := 0) hx hb d_R_init_15 (by decide) ?_
  refine f_put S cls_R hK hP hD hS 0 rfl 2 (by decide) fl_R_failed rfl rfl (rfl) (rfl) (Nat.le_of_ble_eq_true rfl) d_R_init_16 (fun H locs hP hD hS => ?_)
  have hP : va_P D classes [(o, .inr (3, [.ref po, .int 0, .int 0, .int 0, .int 0, .int 0, .int 0, .int 0]))] H := hP
  have hD : va_D A [(o, .inr (3, [.ref po, .int 0, .int 0, .int 0, .int 0, .int 0, .int 0, .int 0]))] := hD
  exact hret _ _ _ _ _ () d_R_init_19 rfl hP hD hS
