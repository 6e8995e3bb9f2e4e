def R_E : String := "TapeEnds"
def F_E : u_T := fun k => match k with
  | 0 => ("TapeEnds", "past", "[LTapeEnds$Tape;", true)
  | 1 => ("TapeEnds", "slots", "[LTapeEnds$Tape;", true)
  | 2 => ("TapeEnds", "saved", "[Z", true)
  | 3 => ("TapeEnds", "pad", "LTapeEnds$Pad;", true)
  | 4 => ("TapeEnds", "reader", "LTapeEnds$OrderReader;", true)
  | 5 => ("TapeEnds", "tape", "LTapeEnds$Tape;", true)
  | 6 => ("TapeEnds", "before", "LTapeEnds$Tape;", false)
  | _ => ("TapeEnds", "pastCount", "I", false)
def ty_E : Nat → FieldType := fun k => match k with
  | 0 => .array (.object "TapeEnds$Tape")
  | 1 => .array (.object "TapeEnds$Tape")
  | 2 => .array .boolean
  | 3 => .object "TapeEnds$Pad"
  | 4 => .object "TapeEnds$OrderReader"
  | 5 => .object "TapeEnds$Tape"
  | 6 => .object "TapeEnds$Tape"
  | _ => .int
def R_T : String := "TapeEnds$Tape"
def F_T : u_T := fun k => match k with
  | 0 => ("TapeEnds$Tape", "feet", "I", false)
  | 1 => ("TapeEnds$Tape", "leastGap", "I", false)
  | 2 => ("TapeEnds$Tape", "mark", "I", false)
  | 3 => ("TapeEnds$Tape", "head", "I", false)
  | 4 => ("TapeEnds$Tape", "splices", "I", false)
  | 5 => ("TapeEnds$Tape", "feetTakenOut", "I", false)
  | 6 => ("TapeEnds$Tape", "travel", "I", false)
  | 7 => ("TapeEnds$Tape", "blocksRead", "I", false)
  | 8 => ("TapeEnds$Tape", "blocks", "[I", true)
  | 9 => ("TapeEnds$Tape", "data", "[I", true)
  | 10 => ("TapeEnds$Tape", "sums", "[I", true)
  | 11 => ("TapeEnds$Tape", "marks", "[I", true)
  | _ => ("TapeEnds$Tape", "timesRead", "[I", true)
def ty_T : Nat → FieldType := fun k => match k with
  | 0 => .int
  | 1 => .int
  | 2 => .int
  | 3 => .int
  | 4 => .int
  | 5 => .int
  | 6 => .int
  | 7 => .int
  | 8 => .array .int
  | 9 => .array .int
  | 10 => .array .int
  | 11 => .array .int
  | _ => .array .int
def R_P : String := "TapeEnds$Pad"
def F_P : u_T := fun k => match k with
  | 0 => ("TapeEnds$Pad", "text", "[C", true)
  | _ => ("TapeEnds$Pad", "size", "I", false)
def ty_P : Nat → FieldType := fun k => match k with
  | 0 => .array .char
  | _ => .int
def R_R : String := "TapeEnds$OrderReader"
def F_R : u_T := fun k => match k with
  | 0 => ("TapeEnds$OrderReader", "pad", "LTapeEnds$Pad;", true)
  | 1 => ("TapeEnds$OrderReader", "position", "I", false)
  | 2 => ("TapeEnds$OrderReader", "failed", "Z", false)
  | 3 => ("TapeEnds$OrderReader", "kind", "C", false)
  | 4 => ("TapeEnds$OrderReader", "file", "I", false)
  | 5 => ("TapeEnds$OrderReader", "number", "I", false)
  | 6 => ("TapeEnds$OrderReader", "sum", "I", false)
  | _ => ("TapeEnds$OrderReader", "backwards", "I", false)
def ty_R : Nat → FieldType := fun k => match k with
  | 0 => .object "TapeEnds$Pad"
  | 1 => .int
  | 2 => .boolean
  | 3 => .char
  | 4 => .int
  | 5 => .int
  | 6 => .int
  | _ => .int
def R_M : String := "TapeEndsModel"
def F_M : u_T := fun k => match k with
  | 0 => ("TapeEndsModel", "s", "[I", true)
  | 1 => ("TapeEndsModel", "before", "[I", true)
  | 2 => ("TapeEndsModel", "known", "I", false)
  | 3 => ("TapeEndsModel", "slots", "[I", true)
  | 4 => ("TapeEndsModel", "isSaved", "[Z", true)
  | 5 => ("TapeEndsModel", "pad", "[I", true)
  | 6 => ("TapeEndsModel", "padLength", "I", false)
  | 7 => ("TapeEndsModel", "place", "I", false)
  | 8 => ("TapeEndsModel", "isWrong", "Z", false)
  | 9 => ("TapeEndsModel", "letter", "I", false)
  | 10 => ("TapeEndsModel", "one", "I", false)
  | 11 => ("TapeEndsModel", "two", "I", false)
  | _ => ("TapeEndsModel", "three", "I", false)
def ty_M : Nat → FieldType := fun k => match k with
  | 0 => .array .int
  | 1 => .array .int
  | 2 => .int
  | 3 => .array .int
  | 4 => .array .boolean
  | 5 => .array .int
  | 6 => .int
  | 7 => .int
  | 8 => .boolean
  | 9 => .int
  | 10 => .int
  | 11 => .int
  | _ => .int
abbrev classes : List vw_C := [(R_E, F_E, 8), (R_T, F_T, 13), (R_P, F_P, 2), (R_R, F_R, 8), (R_M, F_M, 13)]
/-! The words that every contract leans on: those of the tables that stay true under every shift; one list for all methods. -/
def TB : List Cond := lw_tbl.filter goodWord
theorem tb_mem (i : Nat) {w : Cond} (h : lw_tbl[i]? = some w) (hg : goodWord w = true) : w ∈ TB := List.mem_filter.mpr ⟨List.mem_of_getElem? h, hg⟩
theorem tb_in {w : Cond} (h : w ∈ TB) : w ∈ lw_tbl := (List.mem_filter.mp h).1
theorem tb_ok {w : Cond} (h : w ∈ TB) : (w.onTables && w.keeps) = true ∨ ∃ ty, w = .arrayClass ty := good_of_word (List.mem_filter.mp h).2
abbrev wd (y : MethodName) (b : ByteArray) (n : Nat) (rt : Option FieldType) : List Cond := .code y b n rt :: TB
theorem wd_good {y : MethodName} {b : ByteArray} {n : Nat} {rt : Option FieldType} (h : Cond.code y b n rt ∈ TB) : GoodIn TB (wd y b n rt) := fun w hw => by
  rcases List.mem_cons.mp hw with rfl | hw
  · exact ⟨h, tb_ok h⟩
  · exact ⟨hw, tb_ok hw⟩
abbrev rm (fr lo mc ms : Nat) : Room := { frames := fr, cells := mc, slots := ms, locals := lo }
/-- the classes of the arrays: ints, booleans, chars, Tapes -/
abbrev tys (ca : Nat → ClassId) : List (ClassId × FieldType) := [(ca 0, .int), (ca 1, .boolean), (ca 2, .char), (ca 3, .object "TapeEnds$Tape")]
/-- the words of a call of an instance method -/
def CW (own : String) (idx : Nat) (y : MethodName) (b : ByteArray) (n : Nat) (rt : Option FieldType) (k : Nat) : Prop :=
  Cond.methodLink own idx y ∈ TB ∧ Cond.instanceMethod y ∈ TB ∧ Cond.selects y.cls y y ∈ TB ∧ Cond.initialized y.cls ∈ TB ∧ Cond.code y b n rt ∈ TB ∧
    y.cls ≠ "java/lang/invoke/MethodHandle" ∧ y.cls ≠ "java/lang/invoke/VarHandle" ∧ (parseMethodDescriptor y.desc).map (fun d => d.parameters.length) = some k
/-- the words of a call of a static method -/
def CS (own : String) (idx : Nat) (y : MethodName) (b : ByteArray) (n : Nat) (rt : Option FieldType) (k : Nat) : Prop :=
  y.cls = own ∧ Cond.methodLink own idx y ∈ TB ∧ Cond.static y ∈ TB ∧ Cond.initialized own ∈ TB ∧ Cond.code y b n rt ∈ TB ∧
    y.cls ≠ "java/lang/invoke/MethodHandle" ∧ y.cls ≠ "java/lang/invoke/VarHandle" ∧ (parseMethodDescriptor y.desc).map (fun d => d.parameters.length) = some k
/-- the words of a call of a constructor -/
def CI (own : String) (idx : Nat) (y : MethodName) (b : ByteArray) (n : Nat) (k : Nat) : Prop :=
  y.name = "<init>" ∧ Cond.methodLink own idx y ∈ TB ∧ Cond.instanceMethod y ∈ TB ∧ Cond.initialized y.cls ∈ TB ∧ Cond.code y b n none ∈ TB ∧
    y.cls ≠ "java/lang/invoke/MethodHandle" ∧ y.cls ≠ "java/lang/invoke/VarHandle" ∧ (parseMethodDescriptor y.desc).map (fun d => d.parameters.length) = some k
theorem CW.cw {R : Room} {s : State} {args : Array Value} {own : String} {idx : Nat} {y : MethodName} {b : ByteArray} {n : Nat} {rt : Option FieldType} {k fr lo mc ms : Nat} (hts : ∀ w ∈ TB, w.before args s = true) (h : CW own idx y b n rt k) (hR : fr + 1 ≤ R.frames ∧ 8 + (n + 11) + lo ≤ R.locals) :
    CallW R s args own y.cls idx y b n rt (wd y b n rt) (rm fr lo mc ms) mc ms k := by
  obtain ⟨h1, h2, h3, h4, h5, h6⟩ := h
  refine cwV k hts (fun w hw => ?_) rfl rfl rfl ⟨rfl, h6⟩ hR
  unfold wsV at hw
  rcases List.mem_append.mp hw with hw | hw
  · simp only [List.mem_cons, List.not_mem_nil, or_false] at hw
    rcases hw with rfl | rfl | rfl | rfl
    · exact ⟨h1, tb_ok h1⟩
    · exact ⟨h2, tb_ok h2⟩
    · exact ⟨h3, tb_ok h3⟩
    · exact ⟨h4, tb_ok h4⟩
  · exact wd_good h5 w hw
theorem CS.cw {R : Room} {s : State} {args : Array Value} {own : String} {idx : Nat} {y : MethodName} {b : ByteArray} {n : Nat} {rt : Option FieldType} {k fr lo mc ms : Nat} (hts : ∀ w ∈ TB, w.before args s = true) (h : CS own idx y b n rt k) (hR : fr + 1 ≤ R.frames ∧ 8 + (n + 11) + lo ≤ R.locals) :
    CallB R s args own idx y b n rt (wd y b n rt) (rm fr lo mc ms) mc ms k ∧ (Cond.static y).before args s = true := by
  obtain ⟨h0, h1, h2, h4, h5, h6⟩ := h
  refine cwS k hts (fun w hw => ?_) rfl rfl rfl ⟨h0, h6⟩ hR
  unfold wsS at hw
  rcases List.mem_append.mp hw with hw | hw
  · simp only [List.mem_cons, List.not_mem_nil, or_false] at hw
    rcases hw with rfl | rfl | rfl
    · exact ⟨h1, tb_ok h1⟩
    · exact ⟨h2, tb_ok h2⟩
    · exact ⟨h4, tb_ok h4⟩
  · exact wd_good h5 w hw
theorem CI.cw {R : Room} {s : State} {args : Array Value} {own : String} {idx : Nat} {y : MethodName} {b : ByteArray} {n : Nat} {k fr lo mc ms : Nat} (hts : ∀ w ∈ TB, w.before args s = true) (h : CI own idx y b n k) (hR : fr + 1 ≤ R.frames ∧ 8 + (n + 11) + lo ≤ R.locals) :
    CallB R s args own idx y b n none (wd y b n none) (rm fr lo mc ms) mc ms k ∧ y.name = "<init>" ∧ (Cond.instanceMethod y).before args s = true := by
  obtain ⟨h0, h1, h2, h4, h5, h6⟩ := h
  exact cwI k hts (wd_good h5) rfl rfl rfl (hts _ h4) (hts _ h1) (hts _ h2) h0 h6 hR
theorem fm_of {α : Type} {f : Nat → Option α} : ∀ {is : List Nat} {wc : List α}, is.map f = wc.map some → is.filterMap f = wc
  | [], [], _ => rfl
  | [], _ :: _, h => by cases h
  | _ :: _, [], h => by cases h
  | i :: is, w :: wc, h => by
    simp only [List.map_cons, List.cons.injEq] at h
    simp only [List.filterMap_cons, h.1, fm_of h.2]
/-! A method that writes nothing: its answer is E. -/
def RO (l : Launch) (y : MethodName) (b : ByteArray) (n : Nat) (rt : Option FieldType) (fr lo : Nat) (D : va_G) (ca : Nat → ClassId) (as : List Value) (ws : va_W) (E : Int32) : Prop :=
  Met l y (wd y b n rt) (rm fr lo 0 0) (va_Pc as (fun U => va_P D classes ws U.heap ∧ va_K D classes (tys ca) U)) (vp_Si (fun r => r = E)) 0 0 (fun _ => False)
/-- A method that may write the cells ws and no others, makes none: its answer is E, the cells are w' behind it. -/
def MI (l : Launch) (y : MethodName) (b : ByteArray) (n : Nat) (rt : Option FieldType) (fr lo : Nat) (D : va_G) (ca : Nat → ClassId) (as : List Value) (ws : va_W) (E : Int32) (w' : va_W) : Prop :=
  ∀ sz : Nat, Met l y (wd y b n rt) (rm fr lo 0 0) (va_Pc as (fun U => U.heap.size = sz ∧ va_P D classes ws U.heap ∧ va_K D classes (tys ca) U ∧ va_D (fun _ => True) ws)) (va_Qi (fun r (_ : Unit) => r = E) (fun _ t => va_P D classes w' t.heap ∧ va_D (va_A ws sz) w') (va_A ws sz)) 0 0 (va_A ws sz)
def MV (l : Launch) (y : MethodName) (b : ByteArray) (n : Nat) (fr lo : Nat) (D : va_G) (ca : Nat → ClassId) (as : List Value) (ws : va_W) (w' : va_W) : Prop :=
  ∀ sz : Nat, Met l y (wd y b n none) (rm fr lo 0 0) (va_Pc as (fun U => U.heap.size = sz ∧ va_P D classes ws U.heap ∧ va_K D classes (tys ca) U ∧ va_D (fun _ => True) ws)) (va_Qv (fun (_ : Unit) => True) (fun _ t => va_P D classes w' t.heap ∧ va_D (va_A ws sz) w') (va_A ws sz)) 0 0 (va_A ws sz)
theorem RO.mk {l : Launch} {y : MethodName} {b : ByteArray} {n : Nat} {rt : Option FieldType} {fr lo : Nat} {D : va_G} {ca : Nat → ClassId} {as : List Value} {ws : va_W} {E : Int32} {ty : FieldType} (hy : plainName y.cls = true) (hrt : rt = some ty) (hle : (lg_sl as).length ≤ n)
    (body : ∀ (p : Program) (e : Env) (s : State) (m : MethodId) (args : Array Value) (below : List Frame) (meth : Method) (c : Code) (Q : State → Prop), CallFix p m c b n s args TB y.cls → va_P D classes ws s.heap → va_K D classes (tys ca) s →
      (∀ (pc : Nat) (ls : Array Slot) (v : Int32), decode b pc = .ok (.ireturn, 1) → narrow ty (.int v) = .int v → v = E → W p l e (rm fr lo 0 0) s m args below meth c s.heap [] 0 0 Q (F0 m pc ls [.int v])) →
      ∀ ls : Array Slot, lv_has ls n (lv_args 0 as) → W p l e (rm fr lo 0 0) s m args below meth c s.heap [] 0 0 Q (F0 m 0 ls [])) : RO l y b n rt fr lo D ca as ws E := by
  refine Met.ofW (cc := b) (maxL := n) (ret := rt) hy rfl ?_
  intro p e s m args below meth c s₁ B hml hv
  obtain ⟨rfl, hP, hK⟩ := hv
  have hts := atoms_spec (ws := wd y b n rt) B.pre
  have hr := B.returns
  have hlocks := B.notSynchronized
  have hl := lv_entry as (n := n) hle
  rw [lg_entry_eq]
  generalize (lg_sl as ++ List.replicate (n - (lg_sl as).length) Slot.unset).toArray = ls at hl ⊢
  refine body p e s m _ below meth c _ ⟨B.exec, B.bytes, hml, findClass_of_methodNamed B.named, fun w hw => hts w (List.mem_cons_of_mem _ hw)⟩ hP hK ?_ ls hl
  intro pc ls v hd hn hv
  exact W.zret (ty := ty) B.exec B.bytes (by rw [hr, hrt]) hn (fun t ht _ => ⟨v, rfl, hv, ht⟩) (fun q hq => by cases hq) hd
theorem MI.mk {l : Launch} {y : MethodName} {b : ByteArray} {n : Nat} {rt : Option FieldType} {fr lo : Nat} {D : va_G} {ca : Nat → ClassId} {as : List Value} {ws w' : va_W} {E : Int32} {ty : FieldType} (hy : plainName y.cls = true) (hrt : rt = some ty) (hle : (lg_sl as).length ≤ n)
    (body : ∀ (p : Program) (e : Env) (s : State) (m : MethodId) (args : Array Value) (below : List Frame) (meth : Method) (c : Code) (Q : State → Prop) (A : Nat → Prop), CallFix p m c b n s args TB y.cls → (∀ q : Nat, s.heap.size ≤ q → A q) → va_P D classes ws s.heap → va_D A ws → va_K D classes (tys ca) s →
      (∀ (pc : Nat) (ls : Array Slot) (v : Int32) (H : Heap) (locs : List Loc) (w : va_W), decode b pc = .ok (.ireturn, 1) → narrow ty (.int v) = .int v → v = E → w = w' → va_P D classes w H → va_D A w → va_S A s.heap H locs → W p l e (rm fr lo 0 0) s m args below meth c H locs 0 0 Q (F0 m pc ls [.int v])) →
      ∀ ls : Array Slot, lv_has ls n (lv_args 0 as) → va_S A s.heap s.heap [] → W p l e (rm fr lo 0 0) s m args below meth c s.heap [] 0 0 Q (F0 m 0 ls [])) : MI l y b n rt fr lo D ca as ws E w' := by
  intro sz
  refine Met.ofW (cc := b) (maxL := n) (ret := rt) hy rfl ?_
  intro p e s m args below meth c s₁ B hml hv
  obtain ⟨rfl, rfl, hP, hK, hD0⟩ := hv
  have hts := atoms_spec (ws := wd y b n rt) B.pre
  have hr := B.returns
  have hlocks := B.notSynchronized
  have hl := lv_entry as (n := n) hle
  rw [lg_entry_eq]
  generalize (lg_sl as ++ List.replicate (n - (lg_sl as).length) Slot.unset).toArray = ls at hl ⊢
  refine body p e s m _ below meth c _ (va_A ws s.heap.size) ⟨B.exec, B.bytes, hml, findClass_of_methodNamed B.named, fun w hw => hts w (List.mem_cons_of_mem _ hw)⟩ (fun q h => Or.inr h) hP hD0.self hK ?_ ls hl va_S.rf
  intro pc ls v H locs w hd hn hv hw hP hD hS
  subst hw
  exact W.zret (ty := ty) B.exec B.bytes (by rw [hr, hrt]) hn (fun t ht _ => ⟨⟨v, (), rfl, hv, by rw [ht]; exact hP, hD⟩, hS.F ht⟩) hS.2.2 hd
theorem MV.mk {l : Launch} {y : MethodName} {b : ByteArray} {n : Nat} {fr lo : Nat} {D : va_G} {ca : Nat → ClassId} {as : List Value} {ws w' : va_W} (hy : plainName y.cls = true) (hle : (lg_sl as).length ≤ n)
    (body : ∀ (p : Program) (e : Env) (s : State) (m : MethodId) (args : Array Value) (below : List Frame) (meth : Method) (c : Code) (Q : State → Prop) (A : Nat → Prop), CallFix p m c b n s args TB y.cls → (∀ q : Nat, s.heap.size ≤ q → A q) → va_P D classes ws s.heap → va_D A ws → va_K D classes (tys ca) s →
      (∀ (pc : Nat) (ls : Array Slot) (H : Heap) (locs : List Loc) (w : va_W), decode b pc = .ok (.return_, 1) → w = w' → va_P D classes w H → va_D A w → va_S A s.heap H locs → W p l e (rm fr lo 0 0) s m args below meth c H locs 0 0 Q (F0 m pc ls [])) →
      ∀ ls : Array Slot, lv_has ls n (lv_args 0 as) → va_S A s.heap s.heap [] → W p l e (rm fr lo 0 0) s m args below meth c s.heap [] 0 0 Q (F0 m 0 ls [])) : MV l y b n fr lo D ca as ws w' := by
  intro sz
  refine Met.ofW (cc := b) (maxL := n) (ret := none) hy rfl ?_
  intro p e s m args below meth c s₁ B hml hv
  obtain ⟨rfl, rfl, hP, hK, hD0⟩ := hv
  have hts := atoms_spec (ws := wd y b n none) B.pre
  have hr := B.returns
  have hlocks := B.notSynchronized
  have hl := lv_entry as (n := n) hle
  rw [lg_entry_eq]
  generalize (lg_sl as ++ List.replicate (n - (lg_sl as).length) Slot.unset).toArray = ls at hl ⊢
  refine body p e s m _ below meth c _ (va_A ws s.heap.size) ⟨B.exec, B.bytes, hml, findClass_of_methodNamed B.named, fun w hw => hts w (List.mem_cons_of_mem _ hw)⟩ (fun q h => Or.inr h) hP hD0.self hK ?_ ls hl va_S.rf
  intro pc ls H locs w hd hw hP hD hS
  subst hw
  exact W.vret B.exec B.bytes hr (fun t ht _ => ⟨⟨(), rfl, trivial, by rw [ht]; exact hP, hD⟩, hS.F ht⟩) hS.2.2 hd
section FW
variable {p : Program} {l : Launch} {e : Env} {R : Room} {s : State} {m : MethodId} {args : Array Value} {below : List Frame} {meth : Method} {c : Code} {H H0 : Heap} {locs : List Loc} {cells slots : Nat} {Q : State → Prop}
variable {cc : ByteArray} {pc nL : Nat} {ls : Array Slot} {rest st0 : List Value} {D : va_G} {ca : Nat → ClassId} {A : Nat → Prop} {a : Nat} {ws wc wr w1 : va_W} {own : String} {idx : Nat} {y : MethodName} {b : ByteArray} {n k fr lo : Nat} {rt : Option FieldType} {As : List Value} {E : Int32}
theorem lv_tope {x z : Int32} (h : x = z) (k : W p l e R s m args below meth c H locs cells slots Q (F0 m pc ls (.int z :: rest))) : W p l e R s m args below meth c H locs cells slots Q (F0 m pc ls (.int x :: rest)) := by rw [h]; exact k
theorem w_pc {pc2 : Nat} (h : pc = pc2) (k : W p l e R s m args below meth c H locs cells slots Q (F0 m pc2 ls rest)) : W p l e R s m args below meth c H locs cells slots Q (F0 m pc ls rest) := by rw [h]; exact k
theorem RO.callV (S : CallFix p m c cc nL s args TB own) (hM : RO l y b n rt fr lo D ca (.ref a :: As) wc E) (h : CW own idx y b n rt k) (hP : va_P D classes ws H) (hK : va_K D classes (tys ca) s) (is : List Nat) (his : is.filterMap (fun i => ws[i]?) = wc) (q0 : Nat) {ci : Nat} {fs : List Value} (he : ws[q0]? = some (a, .inr (ci, fs))) (hC : (classes[ci]?).map (fun q => q.1) = some y.cls)
    (hk : As.length = k) (hst : st0 = As.reverse ++ .ref a :: rest) (hsz : ls.size = nL) (hR : fr + 1 ≤ R.frames ∧ 8 + (n + 11) + lo ≤ R.locals) (hc : cells ≤ R.cells ∧ slots ≤ R.slots) (hW : (rest.map fun v => v.category).sum ≤ 8) (hdg : decode cc pc = .ok (.invokevirtual idx, 3))
    (kk : W p l e R s m args below meth c H locs cells slots Q (F0 m (pc + 3) ls (.int E :: rest))) : W p l e R s m args below meth c H locs cells slots Q (F0 m pc ls st0) := by
  subst hst
  obtain ⟨q, hq, hqC⟩ := Option.map_eq_some_iff.mp hC
  have hrv := va_recv hK hP hq he
  rw [hqC] at hrv
  refine vp_callSi (rest := rest) (W.runV (C := y.cls) S hM (CW.cw S.2.2.2.2 h hR) ⟨fun a U g mk z => ⟨z.1, z.2.1, va_K.moved (u := U) (U := U.calling g mk a) (Vm.Alike.refl U.vm) z.2.2⟩, hrv, fun U hU hW => ⟨rfl, by rw [hU]; exact hP.sub is his, va_K.moved hW.alike hK⟩⟩ rfl hk hsz rfl (lv_room hW) hdg hc) (fun r hr => ?_)
  subst hr
  exact kk
theorem RO.callS (S : CallFix p m c cc nL s args TB own) (hM : RO l y b n rt fr lo D ca As [] E) (h : CS own idx y b n rt k) (hK : va_K D classes (tys ca) s)
    (hk : As.length = k) (hst : st0 = As.reverse ++ rest) (hsz : ls.size = nL) (hR : fr + 1 ≤ R.frames ∧ 8 + (n + 11) + lo ≤ R.locals) (hc : cells ≤ R.cells ∧ slots ≤ R.slots) (hW : (rest.map fun v => v.category).sum ≤ 8) (hdg : decode cc pc = .ok (.invokestatic idx, 3))
    (kk : W p l e R s m args below meth c H locs cells slots Q (F0 m (pc + 3) ls (.int E :: rest))) : W p l e R s m args below meth c H locs cells slots Q (F0 m pc ls st0) := by
  subst hst
  refine vp_callSi (rest := rest) (W.runS S hM (CS.cw S.2.2.2.2 h hR) ⟨fun a U g mk z => ⟨z.1, z.2.1, va_K.moved (u := U) (U := U.calling g mk a) (Vm.Alike.refl U.vm) z.2.2⟩, fun U hU hW => ⟨rfl, (fun k q hk => by simp at hk), va_K.moved hW.alike hK⟩⟩ rfl hk hsz rfl (lv_room hW) hdg hc) (fun r hr => ?_)
  subst hr
  exact kk
theorem MI.callV {w' : va_W} (S : CallFix p m c cc nL s args TB own) (hM : MI l y b n rt fr lo D ca (.ref a :: As) wc E w') (h : CW own idx y b n rt k) (hP : va_P D classes ws H) (hD : va_D A ws) (hS : va_S A H0 H locs) (hA : ∀ q, H0.size ≤ q → A q) (hK : va_K D classes (tys ca) s) (isC isR : List Nat) (hC1 : isC.map (fun i => ws[i]?) = wc.map some) (hR1 : isR.map (fun i => ws[i]?) = wr.map some) (hnC : va_nd isC = true) (hnR : va_nd isR = true) (hdis : ∀ i ∈ isR, i ∉ isC) (q0 : Nat) {ci : Nat} {fs : List Value} (he : ws[q0]? = some (a, .inr (ci, fs))) (hC : (classes[ci]?).map (fun q => q.1) = some y.cls)
    (hk : As.length = k) (hst : st0 = As.reverse ++ .ref a :: rest) (hsz : ls.size = nL) (hR : fr + 1 ≤ R.frames ∧ 8 + (n + 11) + lo ≤ R.locals) (hc : cells ≤ R.cells ∧ slots ≤ R.slots) (hW : (rest.map fun v => v.category).sum ≤ 8) (hdg : decode cc pc = .ok (.invokevirtual idx, 3))
    (kk : ∀ (H1 : Heap) (locs1 : List Loc), va_P D classes (wr ++ w') H1 → va_D A (wr ++ w') → va_S A H0 H1 locs1 → W p l e R s m args below meth c H1 locs1 cells slots Q (F0 m (pc + 3) ls (.int E :: rest))) : W p l e R s m args below meth c H locs cells slots Q (F0 m pc ls st0) := by
  subst hst
  obtain ⟨q, hq, hqC⟩ := Option.map_eq_some_iff.mp hC
  have hrv := va_recv hK hP hq he
  rw [hqC] at hrv
  have hFc := va_free (wc := wc) hD hS hA isC hC1
  refine va_calli (rest := rest) (va_runV (C := y.cls) S (hM H.size) (CW.cw S.2.2.2.2 h hR) ⟨fun a U g mk z => ⟨z.1, z.2.1, z.2.2.1, va_K.moved (u := U) (U := U.calling g mk a) (Vm.Alike.refl U.vm) z.2.2.2.1, z.2.2.2.2⟩, hrv, fun U hU hW => ⟨rfl, by rw [hU], by rw [hU]; exact hP.sub isC (fm_of hC1), va_K.moved hW.alike hK, (hD.sub isC hnC hC1).weaken (fun _ _ _ _ => trivial)⟩⟩ rfl hk hsz rfl (lv_room hW) hdg hc) hS (fun q _ h => hFc q h) hFc (fun r u t H1 locs1 ht hvm hr hB hz1 hk1 hS => ?_)
  obtain ⟨hP1, hD1⟩ := hB
  rw [ht] at hP1
  obtain ⟨hP, hD⟩ := va_join (wr := wr) (w1 := w') hP hD isC isR hC1 hR1 hnR hdis hk1 hFc hP1 hD1
  subst hr
  exact kk H1 locs1 hP hD hS
theorem MV.callV {w' : va_W} (S : CallFix p m c cc nL s args TB own) (hM : MV l y b n fr lo D ca (.ref a :: As) wc w') (h : CW own idx y b n none k) (hP : va_P D classes ws H) (hD : va_D A ws) (hS : va_S A H0 H locs) (hA : ∀ q, H0.size ≤ q → A q) (hK : va_K D classes (tys ca) s) (isC isR : List Nat) (hC1 : isC.map (fun i => ws[i]?) = wc.map some) (hR1 : isR.map (fun i => ws[i]?) = wr.map some) (hnC : va_nd isC = true) (hnR : va_nd isR = true) (hdis : ∀ i ∈ isR, i ∉ isC) (q0 : Nat) {ci : Nat} {fs : List Value} (he : ws[q0]? = some (a, .inr (ci, fs))) (hC : (classes[ci]?).map (fun q => q.1) = some y.cls)
    (hk : As.length = k) (hst : st0 = As.reverse ++ .ref a :: rest) (hsz : ls.size = nL) (hR : fr + 1 ≤ R.frames ∧ 8 + (n + 11) + lo ≤ R.locals) (hc : cells ≤ R.cells ∧ slots ≤ R.slots) (hW : (rest.map fun v => v.category).sum ≤ 8) (hdg : decode cc pc = .ok (.invokevirtual idx, 3))
    (kk : ∀ (H1 : Heap) (locs1 : List Loc), va_P D classes (wr ++ w') H1 → va_D A (wr ++ w') → va_S A H0 H1 locs1 → W p l e R s m args below meth c H1 locs1 cells slots Q (F0 m (pc + 3) ls rest)) : W p l e R s m args below meth c H locs cells slots Q (F0 m pc ls st0) := by
  subst hst
  obtain ⟨q, hq, hqC⟩ := Option.map_eq_some_iff.mp hC
  have hrv := va_recv hK hP hq he
  rw [hqC] at hrv
  have hFc := va_free (wc := wc) hD hS hA isC hC1
  refine va_callv (rest := rest) (va_runV (C := y.cls) S (hM H.size) (CW.cw S.2.2.2.2 h hR) ⟨fun a U g mk z => ⟨z.1, z.2.1, z.2.2.1, va_K.moved (u := U) (U := U.calling g mk a) (Vm.Alike.refl U.vm) z.2.2.2.1, z.2.2.2.2⟩, hrv, fun U hU hW => ⟨rfl, by rw [hU], by rw [hU]; exact hP.sub isC (fm_of hC1), va_K.moved hW.alike hK, (hD.sub isC hnC hC1).weaken (fun _ _ _ _ => trivial)⟩⟩ rfl hk hsz rfl (lv_room hW) hdg hc) hS (fun q _ h => hFc q h) hFc (fun u t H1 locs1 ht hvm hr hB hz1 hk1 hS => ?_)
  obtain ⟨hP1, hD1⟩ := hB
  rw [ht] at hP1
  obtain ⟨hP, hD⟩ := va_join (wr := wr) (w1 := w') hP hD isC isR hC1 hR1 hnR hdis hk1 hFc hP1 hD1
  exact kk H1 locs1 hP hD hS
/-- what the tables say of a class's fields -/
def ClsOK (ci : Nat) (C : String) (T : u_T) (t : Nat → FieldType) (N : Nat) : Prop := classes[ci]? = some (C, T, N) ∧ (∀ w ∈ u_ws C T N, w ∈ TB) ∧ (∀ k, k < N → parseFieldDescriptor (T k).2.2.1 = some (t k)) ∧ (∀ a, a < N → ∀ b, b < N → a ≠ b → (T a).2.1 ≠ (T b).2.1)
theorem f_get {ci N : Nat} {C : String} {T : u_T} {t : Nat → FieldType} {fs : List Value} {v : Value} (S : CallFix p m c cc nL s args TB own) (hcl : ClsOK ci C T t N) (hK : va_K D classes (tys ca) s) (hP : va_P D classes ws H) (q0 : Nat) (he : ws[q0]? = some (a, .inr (ci, fs))) (k : Nat) (hk : k < N) (hlink : Cond.fieldLink own idx C (T k).2.1 (T k).2.2.1 ∈ TB) (hr : (T k).1 = C) (hv : fs[k]? = some v) (hdg : decode cc pc = .ok (.getfield idx, 3))
    (kk : W p l e R s m args below meth c H locs cells slots Q (F0 m (pc + 3) ls (v :: rest))) : W p l e R s m args below meth c H locs cells slots Q (F0 m pc ls (.ref a :: rest)) :=
  va_get (D := D) S.1 S.2.1 S.2.2.2.2 hcl.2.1 S.2.2.2.1 hK hP q0 he hcl.1 k hk (S.2.2.2.2 _ hlink) (fun x hx => by rw [← hr]; exact hx) hv hdg kk
theorem f_put {ci N : Nat} {C : String} {T : u_T} {t : Nat → FieldType} {fs : List Value} {v : Value} (S : CallFix p m c cc nL s args TB own) (hcl : ClsOK ci C T t N) (hK : va_K D classes (tys ca) s) (hP : va_P D classes ws H) (hD : va_D A ws) (hS : va_S A H0 H locs) (q0 : Nat) (he : ws[q0]? = some (a, .inr (ci, fs))) (k : Nat) (hk : k < N) (hlink : Cond.fieldLink own idx C (T k).2.1 (T k).2.2.1 ∈ TB) (hr : (T k).1 = C) (hfin : (T k).2.2.2 = false) (hn : narrow (t k) v = v) (hfit : fits (t k) v = true) (hl : k < fs.length) (hdg : decode cc pc = .ok (.putfield idx, 3))
    (kk : ∀ (H1 : Heap) (locs1 : List Loc), va_P D classes (ws.set q0 (a, .inr (ci, fs.set k v))) H1 → va_D A (ws.set q0 (a, .inr (ci, fs.set k v))) → va_S A H0 H1 locs1 → W p l e R s m args below meth c H1 locs1 cells slots Q (F0 m (pc + 3) ls rest)) : W p l e R s m args below meth c H locs cells slots Q (F0 m pc ls (v :: .ref a :: rest)) :=
  va_put (D := D) S.1 S.2.1 S.2.2.2.2 hcl.2.1 t hcl.2.2.1 hcl.2.2.2 S.2.2.2.1 hK hP hD hS q0 he hcl.1 k hk (S.2.2.2.2 _ hlink) (fun x hx => by rw [← hr]; exact hx) hfin (hcl.2.2.1 k hk) hn hfit hl hdg kk
theorem f_putF {ci N : Nat} {C : String} {T : u_T} {t : Nat → FieldType} {fs : List Value} {v : Value} (S : CallFix p m c cc nL s args TB own) (hcl : ClsOK ci C T t N) (hK : va_K D classes (tys ca) s) (hP : va_P D classes ws H) (hD : va_D A ws) (hS : va_S A H0 H locs) (q0 : Nat) (he : ws[q0]? = some (a, .inr (ci, fs))) (k : Nat) (hk : k < N) (hlink : Cond.fieldLink own idx C (T k).2.1 (T k).2.2.1 ∈ TB) (hr : (T k).1 = C) (hfin : (T k).2.2.2 = true) (hin : meth.name = "<init>") (hown : (T k).1 = own) (hn : narrow (t k) v = v) (hfit : fits (t k) v = true) (hl : k < fs.length) (hdg : decode cc pc = .ok (.putfield idx, 3))
    (kk : ∀ (H1 : Heap) (locs1 : List Loc), va_P D classes (ws.set q0 (a, .inr (ci, fs.set k v))) H1 → va_D A (ws.set q0 (a, .inr (ci, fs.set k v))) → va_S A H0 H1 locs1 → W p l e R s m args below meth c H1 locs1 cells slots Q (F0 m (pc + 3) ls rest)) : W p l e R s m args below meth c H locs cells slots Q (F0 m pc ls (v :: .ref a :: rest)) :=
  va_putF (D := D) S.1 S.2.1 S.2.2.2.2 hcl.2.1 t hcl.2.2.1 hcl.2.2.2 S.2.2.2.1 hK hP hD hS q0 he hcl.1 k hk (S.2.2.2.2 _ hlink) (fun x hx => by rw [← hr]; exact hx) hfin hin hown (hcl.2.2.1 k hk) hn hfit hl hdg kk
end FW
