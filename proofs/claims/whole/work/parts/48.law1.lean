/-- the loop goes on, from behind a call -/
def Nxt (p : Program) (l : Launch) (e : Env) (s : State) (m : MethodId) (args : Array Value) (below : List Frame) (meth : Method) (c : Code) (cells slots : Nat) (Q : State → Prop) (D : va_G) (ca : Nat → ClassId) (A : Nat → Prop) (ad : Nat → Nat) (tT : Nat → Nat) (ps : Nat → Nat → Nat) (b i : Nat) : Prop :=
  ∀ (K : cH) (g : Nat → Int32) (ks : Nat → Nat → Int32) (SV P : Nat → Int32) (pl rp : Nat) (wb : Bool) (F : cF) (B SL : Nat → Int32) (mq : Nat) (mw : Bool) (G : Int32 × Int32 × Int32 × Int32) (H : Heap) (locs : List Loc) (ls : Array Slot), JJ K g ks SV P pl B SL → JW D A s.heap ca ad tT ps K g ks SV P pl rp wb F B SL mq mw G H locs → lv_has ls 4 [(0, .ref b), (1, .ref (ad 0)), (2, .ref (ad 7)), (3, .int (nI i))] → W p l e room_1 s m args below meth c H locs cells slots Q (F0 m 722 ls [])
theorem law_arg {p : Program} {l : Launch} {e : Env} {s : State} {m : MethodId} {args : Array Value} {below : List Frame} {meth : Method} {c : Code} {H : Heap} {locs : List Loc} {cells slots : Nat} {Q : State → Prop} {ls : Array Slot} {A : Nat → Prop} {ad : Nat → Nat} {b L i j pc : Nat} {xs : Nat → Int32} {rest : List Value} (hx : p.tables.exec = Jvm.exec) (hb : c.code = code) (hX : va_X b L xs s s.heap) (hbl : b < s.heap.size) (hbA : ¬ A b) (hL : L ≤ 2048) (hS : va_S A s.heap H locs) (hl : lv_has ls 4 [(0, .ref b), (1, .ref (ad 0)), (2, .ref (ad 7)), (3, .int (nI i))]) (hj : i + j < L) {n : Int} (hn : Int32.ofInt n = nI j)
    (d0 : decode code pc = .ok (.aload_n 0, 1)) (d1 : decode code (pc + 1) = .ok (.iload_n 3, 1)) (d2 : decode code (pc + 1 + 1) = .ok (.iconst n, 1)) (d3 : decode code (pc + 1 + 1 + 1) = .ok (.iadd, 1)) (d4 : decode code (pc + 1 + 1 + 1 + 1) = .ok (.iaload, 1))
    (kk : W p l e room_1 s m args below meth c H locs cells slots Q (F0 m (pc + 5) ls (.int (xs (i + j)) :: rest))) : W p l e room_1 s m args below meth c H locs cells slots Q (F0 m pc ls rest) := by
  refine lv_aload_n hx hb d0 rfl (lv_at hl 0 rfl) ?_
  refine lv_iload_n hx hb d1 rfl (lv_at hl 3 rfl) ?_
  refine lv_iconst hx hb d2 hn ?_
  refine lv_iadd hx hb d3 ?_
  refine lv_tope (z := nI (i + j)) (nI_add i j) ?_
  refine va_sld hx hb hX hbl hbA hS (vp_in_nI hj (by omega)) d4 ?_
  exact lv_tope (z := xs (i + j)) (congrArg xs (nI_clamp (by omega))) kk
section LC1
variable {p : Program} {l : Launch} {e : Env} {s : State} {m : MethodId} {args : Array Value} {below : List Frame} {meth : Method} {c : Code} {H : Heap} {locs : List Loc} {cells slots : Nat} {Q : State → Prop}
variable {ls : Array Slot} {D : va_G} {ca : Nat → ClassId} {A : Nat → Prop}
variable {ad : Nat → Nat} {tT : Nat → Nat} {ps : Nat → Nat → Nat} {K : cH} {g : Nat → Int32} {ks : Nat → Nat → Int32} {SV P : Nat → Int32} {pl rp : Nat} {wb : Bool} {F : cF} {B SL : Nat → Int32} {mq : Nat} {mw : Bool} {G : Int32 × Int32 × Int32 × Int32} {b L i : Nat} {xs : Nat → Int32}
set_option maxHeartbeats 4000000 in
theorem law_length (S : CallFix p m c code 4 s args TB "TapeEndsLaw") (hA : ∀ q, s.heap.size ≤ q → A q) (hK : va_K D classes (tys ca) s) (hc : cells ≤ room_1.cells ∧ slots ≤ room_1.slots) (hX : va_X b L xs s s.heap) (hbl : b < s.heap.size) (hbA : ¬ A b) (hL : L ≤ 2048) (hi : i + 4 ≤ L) (nx : Nxt p l e s m args below meth c cells slots Q D ca A ad tT ps b i) (hJ : JJ K g ks SV P pl B SL) (hW : JW D A s.heap ca ad tT ps K g ks SV P pl rp wb F B SL mq mw G H locs) (hl : lv_has ls 4 [(0, .ref b), (1, .ref (ad 0)), (2, .ref (ad 7)), (3, .int (nI i))]) : W p l e room_1 s m args below meth c H locs cells slots Q (F0 m 136 ls []) := by
  obtain ⟨hx, hb, hml, hown, hts⟩ := id S
  obtain ⟨e1, e2⟩ := i_len (x := xs (i + 1)) hJ.1
  have hW : WW D A s.heap ((WE ca ad tT ps K g ks SV P pl rp wb F).flatten ++ (WM ca ad g B SL SV P K.2.2.2.2 pl mq mw G).flatten) H locs := hW
  refine lv_aload_n hx hb d_L_law_136 rfl (lv_at hl 1 rfl) ?_
  refine law_arg (j := 1) hx hb hX hbl hbA hL hW.2.2 hl (by omega) (by decide) d_L_law_137 d_L_law_138 d_L_law_139 d_L_law_140 d_L_law_141 ?_
  refine r_E_length hJ.1.bN hJ.2.1 S hA hK hW hl.1 hc (Nat.le_of_ble_eq_true rfl) d_L_law_142 (fun H locs hW => ?_)
  refine lv_aload_n hx hb d_L_law_145 rfl (lv_at hl 2 rfl) ?_
  refine law_arg (j := 1) hx hb hX hbl hbA hL hW.2.2 hl (by omega) (by decide) d_L_law_146 d_L_law_147 d_L_law_148 d_L_law_149 d_L_law_150 ?_
  refine r_M_length hJ.1.bN hJ.2.1 S hA hK hW.swap hl.1 hc (Nat.le_of_ble_eq_true rfl) d_L_law_151 (fun H locs hW => ?_)
  refine lv_icmp_eq (tgt := 722) hx hb d_L_law_154 (by decide) (fun _ => ?_) (fun q => absurd ?_ q)
  · obtain ⟨K', B', hJ', hW'⟩ := J_rec (r := (m_len g (xs (i + 1)))) (gB := g) hJ (Nat.le_refl _) (by rw [e1]) (fun _ => rfl) (by rw [e1]; exact fun _ _ => rfl) (by rw [e1]; exact e2) hW
    exact nx _ _ _ _ _ _ _ _ _ _ _ _ _ _ _ _ _ hJ' hW' hl
  · rw [e1]
set_option maxHeartbeats 4000000 in
theorem law_tune (S : CallFix p m c code 4 s args TB "TapeEndsLaw") (hA : ∀ q, s.heap.size ≤ q → A q) (hK : va_K D classes (tys ca) s) (hc : cells ≤ room_1.cells ∧ slots ≤ room_1.slots) (hX : va_X b L xs s s.heap) (hbl : b < s.heap.size) (hbA : ¬ A b) (hL : L ≤ 2048) (hi : i + 4 ≤ L) (nx : Nxt p l e s m args below meth c cells slots Q D ca A ad tT ps b i) (hJ : JJ K g ks SV P pl B SL) (hW : JW D A s.heap ca ad tT ps K g ks SV P pl rp wb F B SL mq mw G H locs) (hl : lv_has ls 4 [(0, .ref b), (1, .ref (ad 0)), (2, .ref (ad 7)), (3, .int (nI i))]) : W p l e room_1 s m args below meth c H locs cells slots Q (F0 m 159 ls []) := by
  obtain ⟨hx, hb, hml, hown, hts⟩ := id S
  obtain ⟨e1, e2⟩ := i_tun (x := xs (i + 1)) (y := xs (i + 2)) hJ.1
  have hW : WW D A s.heap ((WE ca ad tT ps K g ks SV P pl rp wb F).flatten ++ (WM ca ad g B SL SV P K.2.2.2.2 pl mq mw G).flatten) H locs := hW
  refine lv_aload_n hx hb d_L_law_159 rfl (lv_at hl 1 rfl) ?_
  refine law_arg (j := 1) hx hb hX hbl hbA hL hW.2.2 hl (by omega) (by decide) d_L_law_160 d_L_law_161 d_L_law_162 d_L_law_163 d_L_law_164 ?_
  refine law_arg (j := 2) hx hb hX hbl hbA hL hW.2.2 hl (by omega) (by decide) d_L_law_165 d_L_law_166 d_L_law_167 d_L_law_168 d_L_law_169 ?_
  refine r_E_tune hJ.1.bN hJ.2.1 S hA hK hW hl.1 hc (Nat.le_of_ble_eq_true rfl) d_L_law_170 (fun H locs hW => ?_)
  refine lv_aload_n hx hb d_L_law_173 rfl (lv_at hl 2 rfl) ?_
  refine law_arg (j := 1) hx hb hX hbl hbA hL hW.2.2 hl (by omega) (by decide) d_L_law_174 d_L_law_175 d_L_law_176 d_L_law_177 d_L_law_178 ?_
  refine law_arg (j := 2) hx hb hX hbl hbA hL hW.2.2 hl (by omega) (by decide) d_L_law_179 d_L_law_180 d_L_law_181 d_L_law_182 d_L_law_183 ?_
  refine r_M_tune hJ.1.bN hJ.2.1 S hA hK hW.swap hl.1 hc (Nat.le_of_ble_eq_true rfl) d_L_law_184 (fun H locs hW => ?_)
  refine lv_icmp_eq (tgt := 722) hx hb d_L_law_187 (by decide) (fun _ => ?_) (fun q => absurd ?_ q)
  · obtain ⟨K', B', hJ', hW'⟩ := J_rec (r := (m_tun g (xs (i + 1)) (xs (i + 2)))) (gB := g) hJ (Nat.le_refl _) (by rw [e1]) (fun _ => rfl) (by rw [e1]; exact fun _ _ => rfl) (by rw [e1]; exact e2) hW
    exact nx _ _ _ _ _ _ _ _ _ _ _ _ _ _ _ _ _ hJ' hW' hl
  · rw [e1]
set_option maxHeartbeats 4000000 in
theorem law_write (S : CallFix p m c code 4 s args TB "TapeEndsLaw") (hA : ∀ q, s.heap.size ≤ q → A q) (hK : va_K D classes (tys ca) s) (hc : cells ≤ room_1.cells ∧ slots ≤ room_1.slots) (hX : va_X b L xs s s.heap) (hbl : b < s.heap.size) (hbA : ¬ A b) (hL : L ≤ 2048) (hi : i + 4 ≤ L) (nx : Nxt p l e s m args below meth c cells slots Q D ca A ad tT ps b i) (hJ : JJ K g ks SV P pl B SL) (hW : JW D A s.heap ca ad tT ps K g ks SV P pl rp wb F B SL mq mw G H locs) (hl : lv_has ls 4 [(0, .ref b), (1, .ref (ad 0)), (2, .ref (ad 7)), (3, .int (nI i))]) : W p l e room_1 s m args below meth c H locs cells slots Q (F0 m 192 ls []) := by
  obtain ⟨hx, hb, hml, hown, hts⟩ := id S
  obtain ⟨e1, e2⟩ := i_add (x := xs (i + 1)) (d := xs (i + 2)) (u := xs (i + 3)) hJ.1
  have hW : WW D A s.heap ((WE ca ad tT ps K g ks SV P pl rp wb F).flatten ++ (WM ca ad g B SL SV P K.2.2.2.2 pl mq mw G).flatten) H locs := hW
  refine lv_aload_n hx hb d_L_law_192 rfl (lv_at hl 1 rfl) ?_
  refine law_arg (j := 1) hx hb hX hbl hbA hL hW.2.2 hl (by omega) (by decide) d_L_law_193 d_L_law_194 d_L_law_195 d_L_law_196 d_L_law_197 ?_
  refine law_arg (j := 2) hx hb hX hbl hbA hL hW.2.2 hl (by omega) (by decide) d_L_law_198 d_L_law_199 d_L_law_200 d_L_law_201 d_L_law_202 ?_
  refine law_arg (j := 3) hx hb hX hbl hbA hL hW.2.2 hl (by omega) (by decide) d_L_law_203 d_L_law_204 d_L_law_205 d_L_law_206 d_L_law_207 ?_
  refine r_E_write hJ.1.bN hJ.2.1 S hA hK hW hl.1 hc (Nat.le_of_ble_eq_true rfl) d_L_law_208 (fun H locs hW => ?_)
  refine lv_aload_n hx hb d_L_law_211 rfl (lv_at hl 2 rfl) ?_
  refine law_arg (j := 1) hx hb hX hbl hbA hL hW.2.2 hl (by omega) (by decide) d_L_law_212 d_L_law_213 d_L_law_214 d_L_law_215 d_L_law_216 ?_
  refine law_arg (j := 2) hx hb hX hbl hbA hL hW.2.2 hl (by omega) (by decide) d_L_law_217 d_L_law_218 d_L_law_219 d_L_law_220 d_L_law_221 ?_
  refine law_arg (j := 3) hx hb hX hbl hbA hL hW.2.2 hl (by omega) (by decide) d_L_law_222 d_L_law_223 d_L_law_224 d_L_law_225 d_L_law_226 ?_
  refine r_M_write hJ.1.bN hJ.2.1 S hA hK hW.swap hl.1 hc (Nat.le_of_ble_eq_true rfl) d_L_law_227 (fun H locs hW => ?_)
  refine lv_icmp_eq (tgt := 722) hx hb d_L_law_230 (by decide) (fun _ => ?_) (fun q => absurd ?_ q)
  · obtain ⟨K', B', hJ', hW'⟩ := J_rec (r := (m_add g (xs (i + 1)) (xs (i + 2)) (xs (i + 3)))) (gB := g) hJ (Nat.le_refl _) (by rw [e1]) (fun _ => rfl) (by rw [e1]; exact fun _ _ => rfl) (by rw [e1]; exact e2) hW
    exact nx _ _ _ _ _ _ _ _ _ _ _ _ _ _ _ _ _ hJ' hW' hl
  · rw [e1]
set_option maxHeartbeats 4000000 in
theorem law_cut (S : CallFix p m c code 4 s args TB "TapeEndsLaw") (hA : ∀ q, s.heap.size ≤ q → A q) (hK : va_K D classes (tys ca) s) (hc : cells ≤ room_1.cells ∧ slots ≤ room_1.slots) (hX : va_X b L xs s s.heap) (hbl : b < s.heap.size) (hbA : ¬ A b) (hL : L ≤ 2048) (hi : i + 4 ≤ L) (nx : Nxt p l e s m args below meth c cells slots Q D ca A ad tT ps b i) (hJ : JJ K g ks SV P pl B SL) (hW : JW D A s.heap ca ad tT ps K g ks SV P pl rp wb F B SL mq mw G H locs) (hl : lv_has ls 4 [(0, .ref b), (1, .ref (ad 0)), (2, .ref (ad 7)), (3, .int (nI i))]) : W p l e room_1 s m args below meth c H locs cells slots Q (F0 m 235 ls []) := by
  obtain ⟨hx, hb, hml, hown, hts⟩ := id S
  obtain ⟨e1, e2⟩ := i_cut (x := xs (i + 1)) (y := xs (i + 2)) hJ.1
  have hW : WW D A s.heap ((WE ca ad tT ps K g ks SV P pl rp wb F).flatten ++ (WM ca ad g B SL SV P K.2.2.2.2 pl mq mw G).flatten) H locs := hW
  refine lv_aload_n hx hb d_L_law_235 rfl (lv_at hl 1 rfl) ?_
  refine law_arg (j := 1) hx hb hX hbl hbA hL hW.2.2 hl (by omega) (by decide) d_L_law_236 d_L_law_237 d_L_law_238 d_L_law_239 d_L_law_240 ?_
  refine law_arg (j := 2) hx hb hX hbl hbA hL hW.2.2 hl (by omega) (by decide) d_L_law_241 d_L_law_242 d_L_law_243 d_L_law_244 d_L_law_245 ?_
  refine r_E_cut hJ.1.bN hJ.2.1 S hA hK hW hl.1 hc (Nat.le_of_ble_eq_true rfl) d_L_law_246 (fun H locs hW => ?_)
  refine lv_aload_n hx hb d_L_law_249 rfl (lv_at hl 2 rfl) ?_
  refine law_arg (j := 1) hx hb hX hbl hbA hL hW.2.2 hl (by omega) (by decide) d_L_law_250 d_L_law_251 d_L_law_252 d_L_law_253 d_L_law_254 ?_
  refine law_arg (j := 2) hx hb hX hbl hbA hL hW.2.2 hl (by omega) (by decide) d_L_law_255 d_L_law_256 d_L_law_257 d_L_law_258 d_L_law_259 ?_
  refine r_M_cut hJ.1.bN hJ.2.1 S hA hK hW.swap hl.1 hc (Nat.le_of_ble_eq_true rfl) d_L_law_260 (fun H locs hW => ?_)
  refine lv_icmp_eq (tgt := 722) hx hb d_L_law_263 (by decide) (fun _ => ?_) (fun q => absurd ?_ q)
  · obtain ⟨K', B', hJ', hW'⟩ := J_rec (r := (m_cut g (xs (i + 1)) (xs (i + 2)))) (gB := g) hJ (Nat.le_refl _) (by rw [e1]) (fun _ => rfl) (by rw [e1]; exact fun _ _ => rfl) (by rw [e1]; exact e2) hW
    exact nx _ _ _ _ _ _ _ _ _ _ _ _ _ _ _ _ _ hJ' hW' hl
  · rw [e1]
set_option maxHeartbeats 4000000 in
theorem law_move (S : CallFix p m c code 4 s args TB "TapeEndsLaw") (hA : ∀ q, s.heap.size ≤ q → A q) (hK : va_K D classes (tys ca) s) (hc : cells ≤ room_1.cells ∧ slots ≤ room_1.slots) (hX : va_X b L xs s s.heap) (hbl : b < s.heap.size) (hbA : ¬ A b) (hL : L ≤ 2048) (hi : i + 4 ≤ L) (nx : Nxt p l e s m args below meth c cells slots Q D ca A ad tT ps b i) (hJ : JJ K g ks SV P pl B SL) (hW : JW D A s.heap ca ad tT ps K g ks SV P pl rp wb F B SL mq mw G H locs) (hl : lv_has ls 4 [(0, .ref b), (1, .ref (ad 0)), (2, .ref (ad 7)), (3, .int (nI i))]) : W p l e room_1 s m args below meth c H locs cells slots Q (F0 m 268 ls []) := by
  obtain ⟨hx, hb, hml, hown, hts⟩ := id S
  obtain ⟨e1, e2⟩ := i_mov (x := xs (i + 1)) hJ.1
  have hW : WW D A s.heap ((WE ca ad tT ps K g ks SV P pl rp wb F).flatten ++ (WM ca ad g B SL SV P K.2.2.2.2 pl mq mw G).flatten) H locs := hW
  refine lv_aload_n hx hb d_L_law_268 rfl (lv_at hl 1 rfl) ?_
  refine law_arg (j := 1) hx hb hX hbl hbA hL hW.2.2 hl (by omega) (by decide) d_L_law_269 d_L_law_270 d_L_law_271 d_L_law_272 d_L_law_273 ?_
  refine r_E_move hJ.2.1 S hA hK hW hl.1 hc (Nat.le_of_ble_eq_true rfl) d_L_law_274 (fun H locs hW => ?_)
  refine lv_aload_n hx hb d_L_law_277 rfl (lv_at hl 2 rfl) ?_
  refine law_arg (j := 1) hx hb hX hbl hbA hL hW.2.2 hl (by omega) (by decide) d_L_law_278 d_L_law_279 d_L_law_280 d_L_law_281 d_L_law_282 ?_
  refine r_M_move hJ.2.1 S hA hK hW.swap hl.1 hc (Nat.le_of_ble_eq_true rfl) d_L_law_283 (fun H locs hW => ?_)
  refine lv_icmp_eq (tgt := 722) hx hb d_L_law_286 (by decide) (fun _ => ?_) (fun q => absurd ?_ q)
  · obtain ⟨K', B', hJ', hW'⟩ := J_rec (r := (m_mov g (xs (i + 1)))) (gB := g) hJ (Nat.le_refl _) (by rw [e1]) (fun _ => rfl) (by rw [e1]; exact fun _ _ => rfl) (by rw [e1]; exact e2) hW
    exact nx _ _ _ _ _ _ _ _ _ _ _ _ _ _ _ _ _ hJ' hW' hl
  · rw [e1]
set_option maxHeartbeats 4000000 in
theorem law_read (S : CallFix p m c code 4 s args TB "TapeEndsLaw") (hA : ∀ q, s.heap.size ≤ q → A q) (hK : va_K D classes (tys ca) s) (hc : cells ≤ room_1.cells ∧ slots ≤ room_1.slots) (hX : va_X b L xs s s.heap) (hbl : b < s.heap.size) (hbA : ¬ A b) (hL : L ≤ 2048) (hi : i + 4 ≤ L) (nx : Nxt p l e s m args below meth c cells slots Q D ca A ad tT ps b i) (hJ : JJ K g ks SV P pl B SL) (hW : JW D A s.heap ca ad tT ps K g ks SV P pl rp wb F B SL mq mw G H locs) (hl : lv_has ls 4 [(0, .ref b), (1, .ref (ad 0)), (2, .ref (ad 7)), (3, .int (nI i))]) : W p l e room_1 s m args below meth c H locs cells slots Q (F0 m 304 ls []) := by
  obtain ⟨hx, hb, hml, hown, hts⟩ := id S
  obtain ⟨e1, e2⟩ := i_rd (x := xs (i + 1)) (y := xs (i + 2)) (z := xs (i + 3)) hJ.1
  have hW : WW D A s.heap ((WE ca ad tT ps K g ks SV P pl rp wb F).flatten ++ (WM ca ad g B SL SV P K.2.2.2.2 pl mq mw G).flatten) H locs := hW
  refine lv_aload_n hx hb d_L_law_304 rfl (lv_at hl 1 rfl) ?_
  refine law_arg (j := 1) hx hb hX hbl hbA hL hW.2.2 hl (by omega) (by decide) d_L_law_305 d_L_law_306 d_L_law_307 d_L_law_308 d_L_law_309 ?_
  refine law_arg (j := 2) hx hb hX hbl hbA hL hW.2.2 hl (by omega) (by decide) d_L_law_310 d_L_law_311 d_L_law_312 d_L_law_313 d_L_law_314 ?_
  refine law_arg (j := 3) hx hb hX hbl hbA hL hW.2.2 hl (by omega) (by decide) d_L_law_315 d_L_law_316 d_L_law_317 d_L_law_318 d_L_law_319 ?_
  refine r_E_read hJ.1.bN hJ.2.1 S hA hK hW hl.1 hc (Nat.le_of_ble_eq_true rfl) d_L_law_320 (fun H locs hW => ?_)
  refine lv_aload_n hx hb d_L_law_323 rfl (lv_at hl 2 rfl) ?_
  refine law_arg (j := 1) hx hb hX hbl hbA hL hW.2.2 hl (by omega) (by decide) d_L_law_324 d_L_law_325 d_L_law_326 d_L_law_327 d_L_law_328 ?_
  refine law_arg (j := 2) hx hb hX hbl hbA hL hW.2.2 hl (by omega) (by decide) d_L_law_329 d_L_law_330 d_L_law_331 d_L_law_332 d_L_law_333 ?_
  refine law_arg (j := 3) hx hb hX hbl hbA hL hW.2.2 hl (by omega) (by decide) d_L_law_334 d_L_law_335 d_L_law_336 d_L_law_337 d_L_law_338 ?_
  refine r_M_read hJ.1.bN hJ.2.1 S hA hK hW.swap hl.1 hc (Nat.le_of_ble_eq_true rfl) d_L_law_339 (fun H locs hW => ?_)
  refine lv_icmp_eq (tgt := 722) hx hb d_L_law_342 (by decide) (fun _ => ?_) (fun q => absurd ?_ q)
  · obtain ⟨K', B', hJ', hW'⟩ := J_rec (r := (m_rd g (xs (i + 1)) (xs (i + 2)) (xs (i + 3)))) (gB := g) hJ (Nat.le_refl _) (by rw [e1]) (fun _ => rfl) (by rw [e1]; exact fun _ _ => rfl) (by rw [e1]; exact e2) hW
    exact nx _ _ _ _ _ _ _ _ _ _ _ _ _ _ _ _ _ hJ' hW' hl
  · rw [e1]
set_option maxHeartbeats 4000000 in
theorem law_splice (S : CallFix p m c code 4 s args TB "TapeEndsLaw") (hA : ∀ q, s.heap.size ≤ q → A q) (hK : va_K D classes (tys ca) s) (hc : cells ≤ room_1.cells ∧ slots ≤ room_1.slots) (hX : va_X b L xs s s.heap) (hbl : b < s.heap.size) (hbA : ¬ A b) (hL : L ≤ 2048) (hi : i + 4 ≤ L) (nx : Nxt p l e s m args below meth c cells slots Q D ca A ad tT ps b i) (hJ : JJ K g ks SV P pl B SL) (hW : JW D A s.heap ca ad tT ps K g ks SV P pl rp wb F B SL mq mw G H locs) (hl : lv_has ls 4 [(0, .ref b), (1, .ref (ad 0)), (2, .ref (ad 7)), (3, .int (nI i))]) : W p l e room_1 s m args below meth c H locs cells slots Q (F0 m 347 ls []) := by
  obtain ⟨hx, hb, hml, hown, hts⟩ := id S
  obtain ⟨e1, e2⟩ := i_spl (x := xs (i + 1)) (y := xs (i + 2)) hJ.1
  have hW : WW D A s.heap ((WE ca ad tT ps K g ks SV P pl rp wb F).flatten ++ (WM ca ad g B SL SV P K.2.2.2.2 pl mq mw G).flatten) H locs := hW
  refine lv_aload_n hx hb d_L_law_347 rfl (lv_at hl 1 rfl) ?_
  refine law_arg (j := 1) hx hb hX hbl hbA hL hW.2.2 hl (by omega) (by decide) d_L_law_348 d_L_law_349 d_L_law_350 d_L_law_351 d_L_law_352 ?_
  refine law_arg (j := 2) hx hb hX hbl hbA hL hW.2.2 hl (by omega) (by decide) d_L_law_353 d_L_law_354 d_L_law_355 d_L_law_356 d_L_law_357 ?_
  refine r_E_splice hJ.1.bN hJ.2.1 S hA hK hW hl.1 hc (Nat.le_of_ble_eq_true rfl) d_L_law_358 (fun H locs hW => ?_)
  refine lv_aload_n hx hb d_L_law_361 rfl (lv_at hl 2 rfl) ?_
  refine law_arg (j := 1) hx hb hX hbl hbA hL hW.2.2 hl (by omega) (by decide) d_L_law_362 d_L_law_363 d_L_law_364 d_L_law_365 d_L_law_366 ?_
  refine law_arg (j := 2) hx hb hX hbl hbA hL hW.2.2 hl (by omega) (by decide) d_L_law_367 d_L_law_368 d_L_law_369 d_L_law_370 d_L_law_371 ?_
  refine r_M_splice hJ.1.bN hJ.2.1 S hA hK hW.swap hl.1 hc (Nat.le_of_ble_eq_true rfl) d_L_law_372 (fun H locs hW => ?_)
  refine lv_icmp_eq (tgt := 722) hx hb d_L_law_375 (by decide) (fun _ => ?_) (fun q => absurd ?_ q)
  · obtain ⟨K', B', hJ', hW'⟩ := J_rec (r := (m_spl g (xs (i + 1)) (xs (i + 2)))) (gB := g) hJ (Nat.le_refl _) (by rw [e1]) (fun _ => rfl) (by rw [e1]; exact fun _ _ => rfl) (by rw [e1]; exact e2) hW
    exact nx _ _ _ _ _ _ _ _ _ _ _ _ _ _ _ _ _ hJ' hW' hl
  · rw [e1]
set_option maxHeartbeats 4000000 in
theorem law_rewind (S : CallFix p m c code 4 s args TB "TapeEndsLaw") (hA : ∀ q, s.heap.size ≤ q → A q) (hK : va_K D classes (tys ca) s) (hc : cells ≤ room_1.cells ∧ slots ≤ room_1.slots) (hX : va_X b L xs s s.heap) (hbl : b < s.heap.size) (hbA : ¬ A b) (hL : L ≤ 2048) (hi : i + 4 ≤ L) (nx : Nxt p l e s m args below meth c cells slots Q D ca A ad tT ps b i) (hJ : JJ K g ks SV P pl B SL) (hW : JW D A s.heap ca ad tT ps K g ks SV P pl rp wb F B SL mq mw G H locs) (hl : lv_has ls 4 [(0, .ref b), (1, .ref (ad 0)), (2, .ref (ad 7)), (3, .int (nI i))]) : W p l e room_1 s m args below meth c H locs cells slots Q (F0 m 291 ls []) := by
  obtain ⟨hx, hb, hml, hown, hts⟩ := id S
  obtain ⟨e1, e0, e2⟩ := i_rew hJ.1
  have hW : WW D A s.heap ((WE ca ad tT ps K g ks SV P pl rp wb F).flatten ++ (WM ca ad g B SL SV P K.2.2.2.2 pl mq mw G).flatten) H locs := hW
  refine lv_aload_n hx hb d_L_law_291 rfl (lv_at hl 1 rfl) ?_
  refine r_E_rewind hJ.2.1 S hA hK hW hl.1 hc (Nat.le_of_ble_eq_true rfl) d_L_law_292 (fun H locs hW => ?_)
  refine lv_aload_n hx hb d_L_law_295 rfl (lv_at hl 2 rfl) ?_
  refine r_M_rewind hJ.2.1 S hA hK hW.swap hl.1 hc (Nat.le_of_ble_eq_true rfl) d_L_law_296 (fun H locs hW => ?_)
  refine lv_icmp_eq (tgt := 722) hx hb d_L_law_299 (by decide) (fun _ => ?_) (fun q => absurd ?_ q)
  · obtain ⟨K', B', hJ', hW'⟩ := J_rec (r := ((m_rew g).1, (m_rew g).2, true)) (gB := g) hJ (Nat.le_refl _) (decide_eq_true e0).symm (fun _ => rfl) (by rw [e1]; exact fun _ _ => rfl) (by rw [e1]; exact e2) hW
    exact nx _ _ _ _ _ _ _ _ _ _ _ _ _ _ _ _ _ hJ' hW' hl
  · rw [e1]
end LC1
