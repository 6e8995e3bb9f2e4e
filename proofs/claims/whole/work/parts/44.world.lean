/-! The world of the law: the class's blocks, the model's blocks -/
def WE (ca : Nat → ClassId) (ad : Nat → Nat) (tT : Nat → Nat) (ps : Nat → Nat → Nat) (K : cH) (g : Nat → Int32) (ks : Nat → Nat → Int32) (SV P : Nat → Int32) (pl rp : Nat) (wb : Bool) (F : cF) : List va_W :=
  [[(ad 0, .inr (0, [.ref (ad 1), .ref (ad 2), .ref (ad 3), .ref (ad 4), .ref (ad 5), .ref (tT 0), .ref (K.2.2.1 0), .int (nI K.2.2.2.2)]))],
   [(ad 1, .inl (ca 3, 6, .inr (.inr (.inr (.inr (pq K.1))))))],
   [(ad 2, .inl (ca 3, 2, .inr (.inr (.inr (.inr (pq ps))))))],
   [(ad 3, .inl (ca 1, 2, .inl SV))],
   [(ad 5, .inr (3, [.ref (ad 4), .int (nI rp), .int (b2 wb), .int F.1, .int F.2.1, .int F.2.2.1, .int F.2.2.2.1, .int F.2.2.2.2]))],
   [(ad 4, .inr (2, [.ref (ad 6), .int (nI pl)]))],
   [(ad 6, .inl (ca 2, 80, .inl P))],
   tw ca tT g, tw ca K.2.2.1 K.2.2.2.1, tw ca (K.1 0) (K.2.1 0), tw ca (K.1 1) (K.2.1 1), tw ca (K.1 2) (K.2.1 2), tw ca (K.1 3) (K.2.1 3), tw ca (K.1 4) (K.2.1 4), tw ca (K.1 5) (K.2.1 5), tw ca (ps 0) (ks 0), tw ca (ps 1) (ks 1)]
def WM (ca : Nat → ClassId) (ad : Nat → Nat) (g B SL SV P : Nat → Int32) (n pl mq : Nat) (mw : Bool) (G : Int32 × Int32 × Int32 × Int32) : List va_W :=
  [[(ad 7, .inr (4, [.ref (ad 8), .ref (ad 9), .int (nI n), .ref (ad 10), .ref (ad 11), .ref (ad 12), .int (nI pl), .int (nI mq), .int (b2 mw), .int G.1, .int G.2.1, .int G.2.2.1, .int G.2.2.2]))],
   [(ad 8, .inl (ca 0, 170, .inl g))],
   [(ad 9, .inl (ca 0, 1020, .inl B))],
   [(ad 10, .inl (ca 0, 340, .inl SL))],
   [(ad 11, .inl (ca 1, 2, .inl SV))],
   [(ad 12, .inl (ca 0, 80, .inl P))]]
/-- a world, apart, in A, and nothing else written since H0 -/
def WW (D : va_G) (A : Nat → Prop) (H0 : Heap) (w : va_W) (H : Heap) (locs : List Loc) : Prop := va_P D classes w H ∧ va_D A w ∧ va_S A H0 H locs
theorem WW.perm {D : va_G} {A : Nat → Prop} {H0 H : Heap} {locs : List Loc} {bs bs' : List va_W} (h : WW D A H0 bs.flatten H locs) (is : List Nat) (hn : va_nd is = true) (hs : is.map (fun i => bs[i]?) = bs'.map some) : WW D A H0 bs'.flatten H locs := ⟨h.1.subB is hs, h.2.1.subB is hn hs, h.2.2⟩
theorem WW.swap {D : va_G} {A : Nat → Prop} {H0 H : Heap} {locs : List Loc} {a b : va_W} (h : WW D A H0 (a ++ b) H locs) : WW D A H0 (b ++ a) H locs := by
  have e1 : a ++ b = [a, b].flatten := by simp
  have e2 : b ++ a = [b, a].flatten := by simp
  rw [e1] at h
  rw [e2]
  exact h.perm [1, 0] rfl rfl
theorem fl_sn {bs : List va_W} {w : va_W} : (bs ++ [w]).flatten = bs.flatten ++ w := by simp
section LW
variable {p : Program} {l : Launch} {e : Env} {R : Room} {s : State} {m : MethodId} {args : Array Value} {below : List Frame} {meth : Method} {c : Code} {H H0 : Heap} {locs : List Loc} {cells slots : Nat} {Q : State → Prop}
variable {cc : ByteArray} {pc nL : Nat} {ls : Array Slot} {rest st0 : List Value} {D : va_G} {ca : Nat → ClassId} {A : Nat → Prop} {a : Nat} {bs bs' bc br bc' : List va_W} {wc w' mF : va_W} {own : String} {idx : Nat} {y : MethodName} {b : ByteArray} {n k fr lo : Nat} {rt : Option FieldType} {As : List Value} {E : Int32}
theorem MI.callW (S : CallFix p m c cc nL s args TB own) (hM : MI l y b n rt fr lo D ca (.ref a :: As) wc E w') (h : CW own idx y b n rt k) (hA : ∀ q, H0.size ≤ q → A q) (hK : va_K D classes (tys ca) s) (hWW : WW D A H0 (bs.flatten ++ mF) H locs) (isC isR isP : List Nat) (hC1 : isC.map (fun i => (bs ++ [mF])[i]?) = bc.map some) (hR1 : isR.map (fun i => (bs ++ [mF])[i]?) = br.map some) (hP1 : isP.map (fun i => (br ++ bc')[i]?) = (bs' ++ [mF]).map some) (hbc : bc.flatten = wc) (hbc' : bc'.flatten = w') (hnC : va_nd isC = true) (hnR : va_nd isR = true) (hnP : va_nd isP = true) (hdis : ∀ i ∈ isR, i ∉ isC) {ci : Nat} {fs : List Value} (he : (bs ++ [mF]).flatten[0]? = some (a, .inr (ci, fs))) (hC : (classes[ci]?).map (fun q => q.1) = some y.cls)
    (hk : As.length = k) (hst : st0 = As.reverse ++ .ref a :: rest) (hsz : ls.size = nL) (hR : fr + 1 ≤ R.frames ∧ 8 + (n + 11) + lo ≤ R.locals) (hc : cells ≤ R.cells ∧ slots ≤ R.slots) (hW : (rest.map fun v => v.category).sum ≤ 8) (hdg : decode cc pc = .ok (.invokevirtual idx, 3))
    (kk : ∀ (H1 : Heap) (locs1 : List Loc), WW D A H0 (bs'.flatten ++ mF) H1 locs1 → W p l e R s m args below meth c H1 locs1 cells slots Q (F0 m (pc + 3) ls (.int E :: rest))) : W p l e R s m args below meth c H locs cells slots Q (F0 m pc ls st0) := by
  rw [← fl_sn] at hWW
  refine MI.callB S hM h hWW.1 hWW.2.1 hWW.2.2 hA hK isC isR hC1 hR1 hbc hbc' hnC hnR hdis 0 he hC hk hst hsz hR hc hW hdg (fun H1 locs1 hP hD hS => ?_)
  have h2 : WW D A H0 (bs' ++ [mF]).flatten H1 locs1 := WW.perm ⟨hP, hD, hS⟩ isP hnP hP1
  rw [fl_sn] at h2
  exact kk H1 locs1 h2
theorem RO.callW (S : CallFix p m c cc nL s args TB own) (hM : RO l y b n rt fr lo D ca (.ref a :: As) wc E) (h : CW own idx y b n rt k) (hK : va_K D classes (tys ca) s) (hWW : WW D A H0 (bs.flatten ++ mF) H locs) (isC : List Nat) (hC1 : isC.map (fun i => (bs ++ [mF])[i]?) = bc.map some) (hbc : bc.flatten = wc) {ci : Nat} {fs : List Value} (he : (bs ++ [mF]).flatten[0]? = some (a, .inr (ci, fs))) (hC : (classes[ci]?).map (fun q => q.1) = some y.cls)
    (hk : As.length = k) (hst : st0 = As.reverse ++ .ref a :: rest) (hsz : ls.size = nL) (hR : fr + 1 ≤ R.frames ∧ 8 + (n + 11) + lo ≤ R.locals) (hc : cells ≤ R.cells ∧ slots ≤ R.slots) (hW : (rest.map fun v => v.category).sum ≤ 8) (hdg : decode cc pc = .ok (.invokevirtual idx, 3))
    (kk : W p l e R s m args below meth c H locs cells slots Q (F0 m (pc + 3) ls (.int E :: rest))) : W p l e R s m args below meth c H locs cells slots Q (F0 m pc ls st0) := by
  rw [← fl_sn] at hWW
  exact RO.callB S hM h hWW.1 hK isC hC1 hbc 0 he hC hk hst hsz hR hc hW hdg kk
end LW
