def R_law : String := "TapeEndsLaw"
def lw_P (b : Addr) (xs : List Int32) (args : Array Value) (s : State) : Prop := args = #[.ref b] ∧ s.IntsAt b xs ∧ xs.length ≤ 2048 ∧ (Jvm.Cond.and given_1 narrow_1).before args s = true
def lw_Q (_ : Array Value) (s : State) (o : Outcome) (t : State) : Prop := o = .returned (some (.int 1)) ∧ Framed s o t [] 600000 7302250
def lw_Z (below : List Frame) (a : Array Value) (s : State) : State → Prop := fun t => ∃ o, t.status = .running ∧ Ended t below o ∧ lw_Q a s o t
/-- the law's own end, with 1 on the stack, nothing written that was there before, its room as the claim has it -/
theorem lw_ret {p : Program} {l : Launch} {e : Env} {s : State} {m : MethodId} {below : List Frame} {meth : Method} {c : Code} {b : Nat} (hx : p.tables.exec = Jvm.exec) (hb : c.code = code) (hr : meth.sig.returnType = ret) (hlocks : meth.locks = false) {pc : Nat} {H : Heap} {ls : Array Slot} (hdg : decode code pc = .ok (.ireturn, 1)) : W p l e room_1 s m #[Value.ref b] below meth c H [] 600000 7302250 (lw_Z below #[Value.ref b] s) (F0 m pc ls [.int 1]) := by
  intro T hT X
  obtain ⟨fs, hret, hrun, hended, hW, hframe⟩ := X.leave (v := some (.int 1)) (hlocks := hlocks) (fun h => by rw [hr] at h; cases h)
  have hmeth' : T.vm.method? m = some meth := X.method'
  refine ⟨T.setFrames fs, ?_, .returned (some (.int 1)), hrun, hended, rfl, ⟨_, rfl⟩, hW, hframe⟩
  jvm_step X.here [X.here.top, hx, hb, hdg, hmeth', hr, ret, narrow_b1]
  (try refine ⟨rfl, ?_⟩); (try refine ⟨rfl, ?_⟩)
  first | (intro acts; rw [hret _ acts rfl rfl rfl]) | rw [hret _ _ rfl rfl rfl]
  exact Steps.refl _
/-- what holds at the law's entry: the machine, the code, the tables' words (any of lw_tbl by 'hts w (by decide +kernel)'), the script of L ints xs at the cell b, what the Statement gives of the start (any of its parts by flat_of_before) -/
def lw_At (p : Program) (s : State) (m : MethodId) (meth : Method) (c : Code) (b L : Nat) (xs : Nat → Int32) : Prop :=
  p.tables.exec = Jvm.exec ∧ c.code = code ∧ meth.sig.returnType = ret ∧ c.maxLocals = 4 ∧ s.vm.findClass R_law = some m.cls ∧ (∀ w ∈ lw_tbl, w.before #[Value.ref b] s = true) ∧ va_X b L xs s s.heap ∧ b < s.heap.size ∧ meth.locks = false ∧ (Jvm.Cond.and given_1 narrow_1).before #[Value.ref b] s = true
/-! What holds at the head of the law's loop, and keeps -/
def JJ (K : cH) (g : Nat → Int32) (ks : Nat → Nat → Int32) (SV P : Nat → Int32) (pl : Nat) (B SL : Nat → Int32) : Prop := Inv g ∧ K.2.2.2.2 ≤ 6 ∧ pl ≤ 80 ∧ CH P pl ∧ HR K.2.1 B K.2.2.2.2 ∧ SR ks SV SL
section LJ
variable {D : va_G} {A : Nat → Prop} {H0 H : Heap} {locs : List Loc} {ca : Nat → ClassId} {ad : Nat → Nat} {tT : Nat → Nat} {ps : Nat → Nat → Nat} {K : cH} {g : Nat → Int32} {ks : Nat → Nat → Int32} {SV P : Nat → Int32} {pl rp : Nat} {wb : Bool} {F : cF} {B SL : Nat → Int32} {mq : Nat} {mw : Bool} {G : Int32 × Int32 × Int32 × Int32}
def JW (D : va_G) (A : Nat → Prop) (H0 : Heap) (ca : Nat → ClassId) (ad : Nat → Nat) (tT : Nat → Nat) (ps : Nat → Nat → Nat) (K : cH) (g : Nat → Int32) (ks : Nat → Nat → Int32) (SV P : Nat → Int32) (pl rp : Nat) (wb : Bool) (F : cF) (B SL : Nat → Int32) (mq : Nat) (mw : Bool) (G : Int32 × Int32 × Int32 × Int32) (H : Heap) (locs : List Loc) : Prop :=
  WW D A H0 ((WE ca ad tT ps K g ks SV P pl rp wb F).flatten ++ (WM ca ad g B SL SV P K.2.2.2.2 pl mq mw G).flatten) H locs
theorem WE_eqT {g g' : Nat → Int32} (h : eqT g g') : WE ca ad tT ps K g ks SV P pl rp wb F = WE ca ad tT ps K g' ks SV P pl rp wb F := by
  unfold WE
  rw [tw_eqT h]
theorem J_rec {pl' : Nat} {a : Int32} {gB g1 : Nat → Int32} {r : Int32 × (Nat → Int32) × Bool} (hJ : JJ K g ks SV P pl B SL) (hpl : pl' ≤ pl) (hr : r.2.2 = decide (0 ≤ a)) (hgB : 0 ≤ a → gB = g) (he : eqT g1 r.2.1) (hI : Inv r.2.1) (hW : WW D A H0 ((WM ca ad r.2.1 (kbB r.2.2 g B K.2.2.2.2) SL SV P (kbn r.2.2 K.2.2.2.2) pl' mq mw G).flatten ++ (WE ca ad tT ps (rcd a (K.1, K.2.1, K.2.2.1, gB, K.2.2.2.2)) g1 ks SV P pl' rp wb F).flatten) H locs) :
    ∃ (K' : cH) (B' : Nat → Int32), JJ K' r.2.1 ks SV P pl' B' SL ∧ JW D A H0 ca ad tT ps K' r.2.1 ks SV P pl' rp wb F B' SL mq mw G H locs := by
  obtain ⟨h1, h2, h3, h4, h5, h6⟩ := hJ
  obtain ⟨t1, t2, t3⟩ := HR_rec (a := a) (q := K.1) (tB := K.2.2.1) (gB := gB) h5 h2 h1 hr hgB
  refine ⟨rcd a (K.1, K.2.1, K.2.2.1, gB, K.2.2.2.2), kbB r.2.2 g B K.2.2.2.2, ⟨hI, by rw [t2]; exact t3, by omega, fun j hj => h4 j (by omega), t1, h6⟩, ?_⟩
  unfold JW
  rw [t2, ← WE_eqT he]
  exact hW.swap
end LJ
