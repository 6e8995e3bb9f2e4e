section AROWS
variable {p : Program} {l : Launch} {e : Env} {R : Room} {s : State} {m : MethodId} {args : Array Value} {below : List Frame} {meth : Method} {c : Code} {H H0 : Heap} {locs : List Loc} {cells slots : Nat} {Q : State → Prop}
variable {cc : ByteArray} {pc nL N r a : Nat} {ls : Array Slot} {rest : List Value} {D : va_G} {ca : Nat → ClassId} {A : Nat → Prop} {own : String} {ws : va_W} {cA : ClassId} {f : Nat → Int32} {q : Nat → Option Nat} {i v : Int32}
theorem A_ild (S : CallFix p m c cc nL s args TB own) (hK : va_K D classes (tys ca) s) (hP : va_P D classes ws H) (q0 t0 : Nat) (ha : ws[q0]? = some (a, .inl (cA, N, .inl f))) (ht : (tys ca)[t0]? = some (cA, .int)) (hr : r < N) (hN : N ≤ 2000) (hi : i = nI r) (hdg : decode cc pc = .ok (.iaload, 1))
    (kk : W p l e R s m args below meth c H locs cells slots Q (F0 m (pc + 1) ls (.int (f r) :: rest))) : W p l e R s m args below meth c H locs cells slots Q (F0 m pc ls (.int i :: .ref a :: rest)) := by
  subst hi
  exact va_iald (D := D) S.1 S.2.1 hK hP q0 t0 ha ht (vp_in_nI hr (by omega)) hdg (lv_tope (congrArg f (nI_clamp (by omega))) kk)
theorem A_zld (S : CallFix p m c cc nL s args TB own) (hK : va_K D classes (tys ca) s) (hP : va_P D classes ws H) (q0 t0 : Nat) (ha : ws[q0]? = some (a, .inl (cA, N, .inl f))) (ht : (tys ca)[t0]? = some (cA, .boolean)) (hr : r < N) (hN : N ≤ 2000) (hi : i = nI r) (hdg : decode cc pc = .ok (.baload, 1))
    (kk : W p l e R s m args below meth c H locs cells slots Q (F0 m (pc + 1) ls (.int (f r) :: rest))) : W p l e R s m args below meth c H locs cells slots Q (F0 m pc ls (.int i :: .ref a :: rest)) := by
  subst hi
  exact va_zald (D := D) S.1 S.2.1 hK hP q0 t0 ha ht (vp_in_nI hr (by omega)) hdg (lv_tope (congrArg f (nI_clamp (by omega))) kk)
theorem A_cld (S : CallFix p m c cc nL s args TB own) (hK : va_K D classes (tys ca) s) (hP : va_P D classes ws H) (q0 t0 : Nat) (ha : ws[q0]? = some (a, .inl (cA, N, .inl f))) (ht : (tys ca)[t0]? = some (cA, .char)) (hr : r < N) (hN : N ≤ 2000) (hi : i = nI r) (hdg : decode cc pc = .ok (.caload, 1))
    (kk : W p l e R s m args below meth c H locs cells slots Q (F0 m (pc + 1) ls (.int (f r) :: rest))) : W p l e R s m args below meth c H locs cells slots Q (F0 m pc ls (.int i :: .ref a :: rest)) := by
  subst hi
  exact va_cald (D := D) S.1 S.2.1 hK hP q0 t0 ha ht (vp_in_nI hr (by omega)) hdg (lv_tope (congrArg f (nI_clamp (by omega))) kk)
theorem A_ist (S : CallFix p m c cc nL s args TB own) (hK : va_K D classes (tys ca) s) (hP : va_P D classes ws H) (hD : va_D A ws) (hS : va_S A H0 H locs) (q0 t0 : Nat) (ha : ws[q0]? = some (a, .inl (cA, N, .inl f))) (ht : (tys ca)[t0]? = some (cA, .int)) (hr : r < N) (hN : N ≤ 2000) (hi : i = nI r) (hdg : decode cc pc = .ok (.iastore, 1))
    (kk : ∀ (H1 : Heap) (locs1 : List Loc), va_P D classes (ws.set q0 (a, .inl (cA, N, .inl (upd f r v)))) H1 → va_D A (ws.set q0 (a, .inl (cA, N, .inl (upd f r v)))) → va_S A H0 H1 locs1 → W p l e R s m args below meth c H1 locs1 cells slots Q (F0 m (pc + 1) ls rest)) : W p l e R s m args below meth c H locs cells slots Q (F0 m pc ls (.int v :: .int i :: .ref a :: rest)) := by
  subst hi
  refine va_iast (D := D) S.1 S.2.1 hK hP hD hS q0 t0 ha ht (vp_in_nI hr (by omega)) hdg (fun H1 locs1 hP hD hS => ?_)
  rw [nI_clamp (by omega)] at hP hD
  exact kk H1 locs1 hP hD hS
theorem A_zst (S : CallFix p m c cc nL s args TB own) (hK : va_K D classes (tys ca) s) (hP : va_P D classes ws H) (hD : va_D A ws) (hS : va_S A H0 H locs) (q0 t0 : Nat) (ha : ws[q0]? = some (a, .inl (cA, N, .inl f))) (ht : (tys ca)[t0]? = some (cA, .boolean)) (hr : r < N) (hN : N ≤ 2000) (hi : i = nI r) (hdg : decode cc pc = .ok (.bastore, 1))
    (kk : ∀ (H1 : Heap) (locs1 : List Loc), va_P D classes (ws.set q0 (a, .inl (cA, N, .inl (upd f r (vp_nar .boolean v))))) H1 → va_D A (ws.set q0 (a, .inl (cA, N, .inl (upd f r (vp_nar .boolean v))))) → va_S A H0 H1 locs1 → W p l e R s m args below meth c H1 locs1 cells slots Q (F0 m (pc + 1) ls rest)) : W p l e R s m args below meth c H locs cells slots Q (F0 m pc ls (.int v :: .int i :: .ref a :: rest)) := by
  subst hi
  refine va_zast (D := D) S.1 S.2.1 hK hP hD hS q0 t0 ha ht (vp_in_nI hr (by omega)) hdg (fun H1 locs1 hP hD hS => ?_)
  rw [nI_clamp (by omega)] at hP hD
  exact kk H1 locs1 hP hD hS
theorem A_cst (S : CallFix p m c cc nL s args TB own) (hK : va_K D classes (tys ca) s) (hP : va_P D classes ws H) (hD : va_D A ws) (hS : va_S A H0 H locs) (q0 t0 : Nat) (ha : ws[q0]? = some (a, .inl (cA, N, .inl f))) (ht : (tys ca)[t0]? = some (cA, .char)) (hr : r < N) (hN : N ≤ 2000) (hi : i = nI r) (hdg : decode cc pc = .ok (.castore, 1))
    (kk : ∀ (H1 : Heap) (locs1 : List Loc), va_P D classes (ws.set q0 (a, .inl (cA, N, .inl (upd f r (vp_nar .char v))))) H1 → va_D A (ws.set q0 (a, .inl (cA, N, .inl (upd f r (vp_nar .char v))))) → va_S A H0 H1 locs1 → W p l e R s m args below meth c H1 locs1 cells slots Q (F0 m (pc + 1) ls rest)) : W p l e R s m args below meth c H locs cells slots Q (F0 m pc ls (.int v :: .int i :: .ref a :: rest)) := by
  subst hi
  refine va_cast (D := D) S.1 S.2.1 hK hP hD hS q0 t0 ha ht (vp_in_nI hr (by omega)) hdg (fun H1 locs1 hP hD hS => ?_)
  rw [nI_clamp (by omega)] at hP hD
  exact kk H1 locs1 hP hD hS
theorem A_qld (S : CallFix p m c cc nL s args TB own) (hK : va_K D classes (tys ca) s) (hP : va_P D classes ws H) (q0 : Nat) (ha : ws[q0]? = some (a, .inl (ca 3, N, .inr (.inr (.inr (.inr q)))))) (hr : r < N) (hN : N ≤ 2000) (hi : i = nI r) {z : Nat} (hz : q r = some z) (hdg : decode cc pc = .ok (.aaload, 1))
    (kk : W p l e R s m args below meth c H locs cells slots Q (F0 m (pc + 1) ls (.ref z :: rest))) : W p l e R s m args below meth c H locs cells slots Q (F0 m pc ls (.int i :: .ref a :: rest)) := by
  subst hi
  refine va_aldq (D := D) S.1 S.2.1 hK hP q0 3 ha rfl (vp_in_nI hr (by omega)) hdg ?_
  rw [nI_clamp (by omega), hz]
  exact kk
theorem A_qst (S : CallFix p m c cc nL s args TB own) (hK : va_K D classes (tys ca) s) (hP : va_P D classes ws H) (hD : va_D A ws) (hS : va_S A H0 H locs) (q0 qk : Nat) (ha : ws[q0]? = some (a, .inl (ca 3, N, .inr (.inr (.inr (.inr q)))))) {z : Nat} {vs : List Value} (hv : ws[qk]? = some (z, .inr (1, vs))) (hr : r < N) (hN : N ≤ 2000) (hi : i = nI r) (hdg : decode cc pc = .ok (.aastore, 1))
    (kk : ∀ (H1 : Heap) (locs1 : List Loc), va_P D classes (ws.set q0 (a, .inl (ca 3, N, .inr (.inr (.inr (.inr (va_up q r (some z)))))))) H1 → va_D A (ws.set q0 (a, .inl (ca 3, N, .inr (.inr (.inr (.inr (va_up q r (some z)))))))) → va_S A H0 H1 locs1 → W p l e R s m args below meth c H1 locs1 cells slots Q (F0 m (pc + 1) ls rest)) : W p l e R s m args below meth c H locs cells slots Q (F0 m pc ls (.ref z :: .int i :: .ref a :: rest)) := by
  subst hi
  refine va_astq (D := D) (r := (R_T, F_T, 13)) S.1 S.2.1 hK hP hD hS q0 3 qk 1 ha rfl hv rfl (vp_in_nI hr (by omega)) hdg (fun H1 locs1 hP hD hS => ?_)
  rw [nI_clamp (by omega)] at hP hD
  exact kk H1 locs1 hP hD hS
end AROWS
/-! The model's history and its changes -/
theorem lv_topv {p : Program} {l : Launch} {e : Env} {R : Room} {s : State} {m : MethodId} {args : Array Value} {below : List Frame} {meth : Method} {c : Code} {H : Heap} {locs : List Loc} {cells slots : Nat} {Q : State → Prop} {pc : Nat} {ls : Array Slot} {rest : List Value} {u v : Value} (h : u = v) (k : W p l e R s m args below meth c H locs cells slots Q (F0 m pc ls (v :: rest))) : W p l e R s m args below meth c H locs cells slots Q (F0 m pc ls (u :: rest)) := by rw [h]; exact k
def sh (B : Nat → Int32) (k : Nat) : Nat → Int32 := fun j => if j < k then B (170 + j) else B j
def cp (B g : Nat → Int32) (n k : Nat) : Nat → Int32 := fun j => if 170 * n ≤ j ∧ j < 170 * n + k then g (j - 170 * n) else B j
theorem sh_0 (B : Nat → Int32) : sh B 0 = B := funext fun j => if_neg (by omega)
theorem sh_s (B : Nat → Int32) (k : Nat) : upd (sh B k) k (sh B k (170 + k)) = sh B (k + 1) := funext fun j => by
  by_cases h : j = k
  · subst h
    rw [pk_us]
    unfold sh
    rw [if_neg (by omega), if_pos (by omega)]
  · rw [pk_un h]
    unfold sh
    by_cases h2 : j < k
    · rw [if_pos h2, if_pos (by omega)]
    · rw [if_neg h2, if_neg (by omega)]
theorem cp_0 (B g : Nat → Int32) (n : Nat) : cp B g n 0 = B := funext fun j => if_neg (by omega)
theorem cp_s (B g : Nat → Int32) (n k : Nat) : upd (cp B g n k) (170 * n + k) (g k) = cp B g n (k + 1) := funext fun j => by
  by_cases h : j = 170 * n + k
  · subst h
    rw [pk_us]
    unfold cp
    rw [if_pos (by omega)]
    congr 1
    omega
  · rw [pk_un h]
    unfold cp
    by_cases h2 : 170 * n ≤ j ∧ j < 170 * n + k
    · rw [if_pos h2, if_pos (by omega)]
    · rw [if_neg h2, if_neg (by omega)]
/-- a row copied back -/
def cb (g B : Nat → Int32) (n k : Nat) : Nat → Int32 := fun j => if j < k then B (170 * n + j) else g j
theorem cb_0 (g B : Nat → Int32) (n : Nat) : cb g B n 0 = g := funext fun j => if_neg (by omega)
theorem cb_s (g B : Nat → Int32) (n k : Nat) : upd (cb g B n k) k (B (170 * n + k)) = cb g B n (k + 1) := funext fun j => by
  by_cases h : j = k
  · subst h
    rw [pk_us]
    unfold cb
    rw [if_pos (by omega)]
  · rw [pk_un h]
    unfold cb
    by_cases h2 : j < k
    · rw [if_pos h2, if_pos (by omega)]
    · rw [if_neg h2, if_neg (by omega)]
def knB (g B : Nat → Int32) (n : Nat) : Nat → Int32 := if n = 6 then cp (sh B 850) g 5 170 else cp B g n 170
def knn (n : Nat) : Nat := if n = 6 then 6 else n + 1
def kbB (c : Bool) (g B : Nat → Int32) (n : Nat) : Nat → Int32 := if c = true then knB g B n else B
def kbn (c : Bool) (n : Nat) : Nat := if c = true then knn n else n
def m_len (g : Nat → Int32) (x : Int32) : Int32 × (Nat → Int32) × Bool := if inr x 100 2000 = 0 then (-2, g, false) else if 0 < nI (bn g 0 + bn g 1) then (-5, g, false) else if g 4 ≤ 0 then (g 0, (let g1 := upd g 0 x; upd g1 3 (if g1 3 ≤ x then g1 3 else x)), true) else (-5, g, false)
def m_tun (g : Nat → Int32) (x y : Int32) : Int32 × (Nat → Int32) × Bool := if inr x 1 99 = 0 then (-2, g, false) else if inr y 1 9 = 0 then (-2, g, false) else if x ≤ gp g then (g 1 + 100 * g 2, upd (upd g 1 x) 2 y, true) else (-5, g, false)
def m_add (g : Nat → Int32) (x d u : Int32) : Int32 × (Nat → Int32) × Bool := if 0 ≤ m_wf g x d u then (nI (bn g x.toNatClampNeg), m_wr g x.toNatClampNeg (bn g x.toNatClampNeg) d u, true) else (m_wf g x d u, g, false)
def m_cut (g : Nat → Int32) (x y : Int32) : Int32 × (Nat → Int32) × Bool := if 0 ≤ m_cf g x y then (nI (bn g x.toNatClampNeg) - y, upd g (8 + x.toNatClampNeg) y, true) else (m_cf g x y, g, false)
def m_mov (g : Nat → Int32) (x : Int32) : Int32 × (Nat → Int32) × Bool := if inr x 0 (g 0) = 0 then (-2, g, false) else (ap (g 3) x, tvm g x, true)
def m_rd (g : Nat → Int32) (x y z : Int32) : Int32 × (Nat → Int32) × Bool := if 0 ≤ m_rf g x y z then ((m_rv g x.toNatClampNeg y.toNatClampNeg z.toNatClampNeg).1, (m_rv g x.toNatClampNeg y.toNatClampNeg z.toNatClampNeg).2, true) else (m_rf g x y z, g, false)
def m_ah (a o : Int32) : Int32 := if 0 < a then (if o ≤ a then o else a) else 0
def m_sv (g : Nat → Int32) (x o : Int32) : Nat → Int32 :=
  let g1 := upd g 0 (g 0 - o)
  let g2 := upd g1 4 (g1 4 + 1)
  let g3 := upd g2 5 (g2 5 + o)
  upd g3 3 (g3 3 - m_ah (g3 3 - x) o)
def m_sd (g : Nat → Int32) (k : Nat) (o : Int32) : Nat → Int32 := upd (upd g (10 + 4 * (k / 20 * 20 + k % 20) + 0) (g (10 + 4 * (k / 20 * 20 + k % 20) + 0) - o)) (10 + 4 * (k / 20 * 20 + k % 20) + 0 + 1) 0
def m_spl (g : Nat → Int32) (x y : Int32) : Int32 × (Nat → Int32) × Bool := if inr x 0 (g 0 - 1) = 0 then (-2, g, false) else if inr y 1 50 = 0 then (-2, g, false) else if m_wi g x (x + y) = -6 then (-5, g, false) else
  if 0 ≤ m_wi g x (x + y) then
    (if 1 ≤ g (10 + 4 * ((m_wi g x (x + y)).toNatClampNeg / 20 * 20 + (m_wi g x (x + y)).toNatClampNeg % 20) + 0) - (y + 1) then (if g 4 = 9 then (-4, g, false) else ((m_sv (m_sd g (m_wi g x (x + y)).toNatClampNeg (y + 1)) x (y + 1)) 0, m_sv (m_sd g (m_wi g x (x + y)).toNatClampNeg (y + 1)) x (y + 1), true)) else (-5, g, false))
  else (if g 1 ≤ gp g - (y + 1) then (if g 4 = 9 then (-4, g, false) else ((m_sv g x (y + 1)) 0, m_sv g x (y + 1), true)) else (-5, g, false))
theorem inr_01 {a b v : Int32} : inr v a b = 0 ∨ inr v a b = 1 := by unfold inr; split; exact Or.inl rfl; split; exact Or.inl rfl; exact Or.inr rfl
theorem mwf_of {g : Nat → Int32} {x d u : Int32} (hB : BN g) (h : 0 ≤ m_wf g x d u) : ∃ f, f < 2 ∧ x = nI f ∧ bn g f < 20 := by
  unfold m_wf at h
  split at h
  · exact absurd h (by decide)
  · rename_i h1
    obtain ⟨f, hf, rfl⟩ := isf_of h1
    rw [nI_clamp (by omega)] at h
    split at h
    · exact absurd h (by decide)
    · split at h
      · exact absurd h (by decide)
      · split at h
        · exact absurd h (by decide)
        · rename_i h4
          have := (hB f hf).2
          refine ⟨f, hf, rfl, ?_⟩
          rcases Nat.lt_or_ge (bn g f) 20 with q | q
          · exact q
          · exact absurd (show nI (bn g f) = 20 by rw [show bn g f = 20 by omega]; rfl) h4
theorem mcf_of {g : Nat → Int32} {x y : Int32} (h : 0 ≤ m_cf g x y) : ∃ f, f < 2 ∧ x = nI f := by
  unfold m_cf at h
  split at h
  · exact absurd h (by decide)
  · rename_i h1
    exact isf_of h1
theorem mrf_of {g : Nat → Int32} {x y z : Int32} (hB : BN g) (h : 0 ≤ m_rf g x y z) : ∃ f b w, f < 2 ∧ b < bn g f ∧ w < 2 ∧ x = nI f ∧ y = nI b ∧ z = nI w := by
  unfold m_rf at h
  split at h
  · exact absurd h (by decide)
  · rename_i h1
    obtain ⟨f, b, hf, hb, rfl, rfl⟩ := ibk_of h1 hB
    split at h
    · exact absurd h (by decide)
    · rename_i h2
      rw [inr_f] at h2
      obtain ⟨w, hw, rfl⟩ := isf_of h2
      exact ⟨f, b, w, hf, hb, hw, rfl, rfl, rfl⟩
theorem wlp_of {g : Nat → Int32} {x y : Int32} : ∀ (r k : Nat), k + r = 40 → wlp g x y r k = -6 ∨ ∃ j, j < 40 ∧ wlp g x y r k = nI j
  | 0, _, _ => Or.inl rfl
  | r + 1, k, hk => by
    unfold wlp
    split
    · exact wlp_of r (k + 1) (by omega)
    · split
      · exact wlp_of r (k + 1) (by omega)
      · split
        · exact wlp_of r (k + 1) (by omega)
        · exact Or.inr ⟨k, by omega, rfl⟩
theorem mwi_of {g : Nat → Int32} {x y : Int32} (h : 0 ≤ m_wi g x y) : ∃ k, k < 40 ∧ m_wi g x y = nI k := by
  unfold m_wi at h ⊢
  split at h
  · rename_i h1
    rw [if_pos h1]
    rcases wlp_of (g := g) (x := x) (y := y) 40 0 rfl with q | q
    · rw [q] at h; exact absurd h (by decide)
    · exact q
  · rename_i h1
    rw [if_neg h1]
    split at h
    · rename_i h2
      rw [if_pos h2]
      rcases wlp_of (g := g) (x := x) (y := y) 40 0 rfl with q | q
      · rw [q] at h; exact absurd h (by decide)
      · exact q
    · exact absurd h (by decide)
theorem not_lt_of {v : Int32} (h : 0 ≤ v) : ¬ v < 0 := Int32.not_lt.mpr h
theorem lt_of_nle {v : Int32} (h : ¬ 0 ≤ v) : v < 0 := Int32.not_le.mp h
set_option maxHeartbeats 4000000 in
set_option maxRecDepth 100000 in
theorem c_M_know (l : Launch) (D : va_G) (ca : Nat → ClassId) (o sa ba : Nat) (fs : List Value) (g B : Nat → Int32) (n : Nat) (hn6 : n ≤ 6) : MV l y_M_know b_M_know 2 0 0 D ca [.ref o] [(o, .inr (4, (.ref sa :: .ref ba :: .int (nI n) :: fs))), (sa, .inl (ca 0, 170, .inl g)), (ba, .inl (ca 0, 1020, .inl B))] [(o, .inr (4, (.ref sa :: .ref ba :: .int (nI (knn n)) :: fs))), (sa, .inl (ca 0, 170, .inl g)), (ba, .inl (ca 0, 1020, .inl (knB g B n)))] := by
  refine MV.mk rfl (Nat.le_of_ble_eq_true rfl) ?_
  intro p e s m args below meth c Q A S hA hP hD hK
  obtain ⟨hx, hb, hml, hown, hts⟩ := id S
  intro hret ls hl0 hS
  have hl : lv_has ls 2 [(0, .ref o)] := hl0
  refine lv_aload_n hx hb d_M_know_0 rfl (lv_at hl 0 rfl) ?_
  refine f_get S cls_M hK hP 0 rfl 2 (by decide) fl_M_known rfl rfl d_M_know_1 ?_
  refine lv_bipush (v := 6) hx hb d_M_know_4 (by decide) ?_
  refine lv_icmp_ne (tgt := 50) hx hb d_M_know_6 (by decide) (fun c_6 => ?_) (fun c_6 => ?_)
  · have e_6 : ¬ n = 6 := fun q => c_6 (by rw [q]; rfl)
    refine lv_iconst (v := 0) hx hb d_M_know_50 (by decide) ?_
    refine lv_istore_n (lv' := [(1, .int 0), (0, .ref o)]) hx hb d_M_know_51 rfl hl (by decide) rfl (fun ls hl => ?_)
    suffices lp : ∀ (r k : Nat), 170 - k < r → k ≤ 170 → ∀ (H : Heap) (locs : List Loc), va_P D classes [(o, .inr (4, (.ref sa :: .ref ba :: .int (nI n) :: fs))), (sa, .inl (ca 0, 170, .inl g)), (ba, .inl (ca 0, 1020, .inl (cp B g n k)))] H → va_D A [(o, .inr (4, (.ref sa :: .ref ba :: .int (nI n) :: fs))), (sa, .inl (ca 0, 170, .inl g)), (ba, .inl (ca 0, 1020, .inl (cp B g n k)))] → va_S A s.heap H locs → ∀ ls : Array Slot, lv_has ls 2 [(1, .int (nI k)), (0, .ref o)] → W p l e (rm 0 0 0 0) s m args below meth c H locs 0 0 Q (F0 m 52 ls []) from lp (170 + 1) 0 (by omega) (by omega) _ _ (by rw [cp_0]; exact hP) (by rw [cp_0]; exact hD) hS _ (lv_sub hl [0, 1] rfl)
    intro r
    induction r with
    | zero => intro k hk; omega
    | succ r ih =>
      intro k hk hkn H locs hP hD hS ls hl
      refine lv_iload_n hx hb d_M_know_52 rfl (lv_at hl 0 rfl) ?_
      refine lv_sipush (v := 170) hx hb d_M_know_53 (by decide) ?_
      refine lv_icmp_ge (tgt := 86) hx hb d_M_know_56 (by decide) (fun c_56 => ?_) (fun c_56 => ?_)
      · have e_k : 170 ≤ k := le_of_nI (by omega) (by omega) (show nI 170 ≤ nI k from c_56)
        obtain rfl : k = 170 := by omega
        refine lv_aload_n hx hb d_M_know_86 rfl (lv_at hl 1 rfl) ?_
        refine lv_dup hx hb d_M_know_87 rfl ?_
        refine f_get S cls_M hK hP 0 rfl 2 (by decide) fl_M_known rfl rfl d_M_know_88 ?_
        refine lv_iconst (v := 1) hx hb d_M_know_91 (by decide) ?_
        refine lv_iadd hx hb d_M_know_92 ?_
        refine lv_tope (z := nI (n + 1)) (nI_add n 1) ?_
        refine f_put S cls_M hK hP hD hS 0 rfl 2 (by decide) fl_M_known rfl rfl (rfl) (rfl) (Nat.le_of_ble_eq_true rfl) d_M_know_93 (fun H locs hP hD hS => ?_)
        have hP : va_P D classes [(o, .inr (4, (.ref sa :: .ref ba :: .int (nI (n + 1)) :: fs))), (sa, .inl (ca 0, 170, .inl g)), (ba, .inl (ca 0, 1020, .inl (cp B g n 170)))] H := hP
        have hD : va_D A [(o, .inr (4, (.ref sa :: .ref ba :: .int (nI (n + 1)) :: fs))), (sa, .inl (ca 0, 170, .inl g)), (ba, .inl (ca 0, 1020, .inl (cp B g n 170)))] := hD
        exact hret _ _ _ _ _ d_M_know_96 (by first | (simp only [knB, knn, e_6, ↓reduceIte]; done) | (simp only [knB, knn, e_6, ↓reduceIte]; rfl) | rfl) hP hD hS
      · have e_k : k < 170 := nle_lt (by omega) (by omega) (show ¬ nI 170 ≤ nI k from c_56)
        refine lv_aload_n hx hb d_M_know_59 rfl (lv_at hl 1 rfl) ?_
        refine f_get S cls_M hK hP 0 rfl 1 (by decide) fl_M_before rfl rfl d_M_know_60 ?_
        refine lv_sipush (v := 170) hx hb d_M_know_63 (by decide) ?_
        refine lv_aload_n hx hb d_M_know_66 rfl (lv_at hl 1 rfl) ?_
        refine f_get S cls_M hK hP 0 rfl 2 (by decide) fl_M_known rfl rfl d_M_know_67 ?_
        refine lv_imul hx hb d_M_know_70 ?_
        refine lv_tope (z := nI (170 * n)) (pk_mul 170 n) ?_
        refine lv_iload_n hx hb d_M_know_71 rfl (lv_at hl 0 rfl) ?_
        refine lv_iadd hx hb d_M_know_72 ?_
        refine lv_tope (z := nI ((170 * n) + k)) (nI_add (170 * n) k) ?_
        refine lv_aload_n hx hb d_M_know_73 rfl (lv_at hl 1 rfl) ?_
        refine f_get S cls_M hK hP 0 rfl 0 (by decide) fl_M_s rfl rfl d_M_know_74 ?_
        refine lv_iload_n hx hb d_M_know_77 rfl (lv_at hl 0 rfl) ?_
        refine A_ild S hK hP 1 0 (f := g) rfl rfl (r := k) (by omega) (by decide) rfl d_M_know_78 ?_
        refine A_ist S hK hP hD hS 2 0 (f := cp B g n k) rfl rfl (r := (170 * n) + k) (by omega) (by decide) rfl d_M_know_79 (fun H locs hP hD hS => ?_)
        rw [show upd (cp B g n k) ((170 * n) + k) (g k) = cp B g n (k + 1) from cp_s B g n k] at hP hD
        have hP : va_P D classes [(o, .inr (4, (.ref sa :: .ref ba :: .int (nI n) :: fs))), (sa, .inl (ca 0, 170, .inl g)), (ba, .inl (ca 0, 1020, .inl (cp B g n (k + 1))))] H := hP
        have hD : va_D A [(o, .inr (4, (.ref sa :: .ref ba :: .int (nI n) :: fs))), (sa, .inl (ca 0, 170, .inl g)), (ba, .inl (ca 0, 1020, .inl (cp B g n (k + 1))))] := hD
        refine lv_iinc (v := nI (k + 1)) (lv' := [(1, .int (nI (k + 1))), (0, .ref o)]) hx hb d_M_know_80 hl (k := 0) rfl (nI_1 k) (by decide) rfl (fun ls hl => ?_)
        refine lv_goto (tgt := 52) hx hb d_M_know_83 (by decide) ?_
        exact ih (k + 1) (by omega) (by omega) _ _ hP hD hS _ (lv_sub hl [0, 1] rfl)
  · obtain rfl : n = 6 := (nI_eq (by omega) (by decide)).mp (show nI n = nI 6 from c_6)
    refine lv_iconst (v := 0) hx hb d_M_know_9 (by decide) ?_
    refine lv_istore_n (lv' := [(1, .int 0), (0, .ref o)]) hx hb d_M_know_10 rfl hl (by decide) rfl (fun ls hl => ?_)
    suffices lp : ∀ (r k : Nat), 850 - k < r → k ≤ 850 → ∀ (H : Heap) (locs : List Loc), va_P D classes [(o, .inr (4, (.ref sa :: .ref ba :: .int (nI 6) :: fs))), (sa, .inl (ca 0, 170, .inl g)), (ba, .inl (ca 0, 1020, .inl (sh B k)))] H → va_D A [(o, .inr (4, (.ref sa :: .ref ba :: .int (nI 6) :: fs))), (sa, .inl (ca 0, 170, .inl g)), (ba, .inl (ca 0, 1020, .inl (sh B k)))] → va_S A s.heap H locs → ∀ ls : Array Slot, lv_has ls 2 [(1, .int (nI k)), (0, .ref o)] → W p l e (rm 0 0 0 0) s m args below meth c H locs 0 0 Q (F0 m 11 ls []) from lp (850 + 1) 0 (by omega) (by omega) _ _ (by rw [sh_0]; exact hP) (by rw [sh_0]; exact hD) hS _ (lv_sub hl [0, 1] rfl)
    intro r
    induction r with
    | zero => intro k hk; omega
    | succ r ih =>
      intro k hk hkn H locs hP hD hS ls hl
      refine lv_iload_n hx hb d_M_know_11 rfl (lv_at hl 0 rfl) ?_
      refine lv_sipush (v := 850) hx hb d_M_know_12 (by decide) ?_
      refine lv_icmp_ge (tgt := 40) hx hb d_M_know_15 (by decide) (fun c_15 => ?_) (fun c_15 => ?_)
      · have e_k : 850 ≤ k := le_of_nI (by omega) (by omega) (show nI 850 ≤ nI k from c_15)
        obtain rfl : k = 850 := by omega
        refine lv_aload_n hx hb d_M_know_40 rfl (lv_at hl 1 rfl) ?_
        refine lv_dup hx hb d_M_know_41 rfl ?_
        refine f_get S cls_M hK hP 0 rfl 2 (by decide) fl_M_known rfl rfl d_M_know_42 ?_
        refine lv_iconst (v := 1) hx hb d_M_know_45 (by decide) ?_
        refine lv_isub hx hb d_M_know_46 ?_
        refine lv_tope (z := nI 5) (by decide) ?_
        refine f_put S cls_M hK hP hD hS 0 rfl 2 (by decide) fl_M_known rfl rfl (rfl) (rfl) (Nat.le_of_ble_eq_true rfl) d_M_know_47 (fun H locs hP hD hS => ?_)
        have hP : va_P D classes [(o, .inr (4, (.ref sa :: .ref ba :: .int (nI 5) :: fs))), (sa, .inl (ca 0, 170, .inl g)), (ba, .inl (ca 0, 1020, .inl (sh B 850)))] H := hP
        have hD : va_D A [(o, .inr (4, (.ref sa :: .ref ba :: .int (nI 5) :: fs))), (sa, .inl (ca 0, 170, .inl g)), (ba, .inl (ca 0, 1020, .inl (sh B 850)))] := hD
        refine lv_iconst (v := 0) hx hb d_M_know_50 (by decide) ?_
        refine lv_istore_n (lv' := [(1, .int 0), (0, .ref o)]) hx hb d_M_know_51 rfl hl (by decide) rfl (fun ls hl => ?_)
        suffices lp : ∀ (r k : Nat), 170 - k < r → k ≤ 170 → ∀ (H : Heap) (locs : List Loc), va_P D classes [(o, .inr (4, (.ref sa :: .ref ba :: .int (nI 5) :: fs))), (sa, .inl (ca 0, 170, .inl g)), (ba, .inl (ca 0, 1020, .inl (cp (sh B 850) g 5 k)))] H → va_D A [(o, .inr (4, (.ref sa :: .ref ba :: .int (nI 5) :: fs))), (sa, .inl (ca 0, 170, .inl g)), (ba, .inl (ca 0, 1020, .inl (cp (sh B 850) g 5 k)))] → va_S A s.heap H locs → ∀ ls : Array Slot, lv_has ls 2 [(1, .int (nI k)), (0, .ref o)] → W p l e (rm 0 0 0 0) s m args below meth c H locs 0 0 Q (F0 m 52 ls []) from lp (170 + 1) 0 (by omega) (by omega) _ _ (by rw [cp_0]; exact hP) (by rw [cp_0]; exact hD) hS _ (lv_sub hl [0, 1] rfl)
        intro r
        induction r with
        | zero => intro k hk; omega
        | succ r ih =>
          intro k hk hkn H locs hP hD hS ls hl
          refine lv_iload_n hx hb d_M_know_52 rfl (lv_at hl 0 rfl) ?_
          refine lv_sipush (v := 170) hx hb d_M_know_53 (by decide) ?_
          refine lv_icmp_ge (tgt := 86) hx hb d_M_know_56 (by decide) (fun c_56 => ?_) (fun c_56 => ?_)
          · have e_k : 170 ≤ k := le_of_nI (by omega) (by omega) (show nI 170 ≤ nI k from c_56)
            obtain rfl : k = 170 := by omega
            refine lv_aload_n hx hb d_M_know_86 rfl (lv_at hl 1 rfl) ?_
            refine lv_dup hx hb d_M_know_87 rfl ?_
            refine f_get S cls_M hK hP 0 rfl 2 (by decide) fl_M_known rfl rfl d_M_know_88 ?_
            refine lv_iconst (v := 1) hx hb d_M_know_91 (by decide) ?_
            refine lv_iadd hx hb d_M_know_92 ?_
            refine lv_tope (z := nI (5 + 1)) (nI_add 5 1) ?_
            refine f_put S cls_M hK hP hD hS 0 rfl 2 (by decide) fl_M_known rfl rfl (rfl) (rfl) (Nat.le_of_ble_eq_true rfl) d_M_know_93 (fun H locs hP hD hS => ?_)
            have hP : va_P D classes [(o, .inr (4, (.ref sa :: .ref ba :: .int (nI (5 + 1)) :: fs))), (sa, .inl (ca 0, 170, .inl g)), (ba, .inl (ca 0, 1020, .inl (cp (sh B 850) g 5 170)))] H := hP
            have hD : va_D A [(o, .inr (4, (.ref sa :: .ref ba :: .int (nI (5 + 1)) :: fs))), (sa, .inl (ca 0, 170, .inl g)), (ba, .inl (ca 0, 1020, .inl (cp (sh B 850) g 5 170)))] := hD
            exact hret _ _ _ _ _ d_M_know_96 (by first | (simp only [knB, knn, ↓reduceIte]; done) | (simp only [knB, knn, ↓reduceIte]; rfl) | rfl) hP hD hS
          · have e_k : k < 170 := nle_lt (by omega) (by omega) (show ¬ nI 170 ≤ nI k from c_56)
            refine lv_aload_n hx hb d_M_know_59 rfl (lv_at hl 1 rfl) ?_
            refine f_get S cls_M hK hP 0 rfl 1 (by decide) fl_M_before rfl rfl d_M_know_60 ?_
            refine lv_sipush (v := 170) hx hb d_M_know_63 (by decide) ?_
            refine lv_aload_n hx hb d_M_know_66 rfl (lv_at hl 1 rfl) ?_
            refine f_get S cls_M hK hP 0 rfl 2 (by decide) fl_M_known rfl rfl d_M_know_67 ?_
            refine lv_imul hx hb d_M_know_70 ?_
            refine lv_tope (z := nI (170 * 5)) (pk_mul 170 5) ?_
            refine lv_iload_n hx hb d_M_know_71 rfl (lv_at hl 0 rfl) ?_
            refine lv_iadd hx hb d_M_know_72 ?_
            refine lv_tope (z := nI ((170 * 5) + k)) (nI_add (170 * 5) k) ?_
            refine lv_aload_n hx hb d_M_know_73 rfl (lv_at hl 1 rfl) ?_
            refine f_get S cls_M hK hP 0 rfl 0 (by decide) fl_M_s rfl rfl d_M_know_74 ?_
            refine lv_iload_n hx hb d_M_know_77 rfl (lv_at hl 0 rfl) ?_
            refine A_ild S hK hP 1 0 (f := g) rfl rfl (r := k) (by omega) (by decide) rfl d_M_know_78 ?_
            refine A_ist S hK hP hD hS 2 0 (f := cp (sh B 850) g 5 k) rfl rfl (r := (170 * 5) + k) (by omega) (by decide) rfl d_M_know_79 (fun H locs hP hD hS => ?_)
            rw [show upd (cp (sh B 850) g 5 k) ((170 * 5) + k) (g k) = cp (sh B 850) g 5 (k + 1) from cp_s (sh B 850) g 5 k] at hP hD
            have hP : va_P D classes [(o, .inr (4, (.ref sa :: .ref ba :: .int (nI 5) :: fs))), (sa, .inl (ca 0, 170, .inl g)), (ba, .inl (ca 0, 1020, .inl (cp (sh B 850) g 5 (k + 1))))] H := hP
            have hD : va_D A [(o, .inr (4, (.ref sa :: .ref ba :: .int (nI 5) :: fs))), (sa, .inl (ca 0, 170, .inl g)), (ba, .inl (ca 0, 1020, .inl (cp (sh B 850) g 5 (k + 1))))] := hD
            refine lv_iinc (v := nI (k + 1)) (lv' := [(1, .int (nI (k + 1))), (0, .ref o)]) hx hb d_M_know_80 hl (k := 0) rfl (nI_1 k) (by decide) rfl (fun ls hl => ?_)
            refine lv_goto (tgt := 52) hx hb d_M_know_83 (by decide) ?_
            exact ih (k + 1) (by omega) (by omega) _ _ hP hD hS _ (lv_sub hl [0, 1] rfl)
      · have e_k : k < 850 := nle_lt (by omega) (by omega) (show ¬ nI 850 ≤ nI k from c_15)
        refine lv_aload_n hx hb d_M_know_18 rfl (lv_at hl 1 rfl) ?_
        refine f_get S cls_M hK hP 0 rfl 1 (by decide) fl_M_before rfl rfl d_M_know_19 ?_
        refine lv_iload_n hx hb d_M_know_22 rfl (lv_at hl 0 rfl) ?_
        refine lv_aload_n hx hb d_M_know_23 rfl (lv_at hl 1 rfl) ?_
        refine f_get S cls_M hK hP 0 rfl 1 (by decide) fl_M_before rfl rfl d_M_know_24 ?_
        refine lv_sipush (v := 170) hx hb d_M_know_27 (by decide) ?_
        refine lv_iload_n hx hb d_M_know_30 rfl (lv_at hl 0 rfl) ?_
        refine lv_iadd hx hb d_M_know_31 ?_
        refine lv_tope (z := nI (170 + k)) (nI_add 170 k) ?_
        refine A_ild S hK hP 2 0 (f := sh B k) rfl rfl (r := 170 + k) (by omega) (by decide) rfl d_M_know_32 ?_
        refine A_ist S hK hP hD hS 2 0 (f := sh B k) rfl rfl (r := k) (by omega) (by decide) rfl d_M_know_33 (fun H locs hP hD hS => ?_)
        rw [show upd (sh B k) k ((sh B k) (170 + k)) = sh B (k + 1) from sh_s B k] at hP hD
        have hP : va_P D classes [(o, .inr (4, (.ref sa :: .ref ba :: .int (nI 6) :: fs))), (sa, .inl (ca 0, 170, .inl g)), (ba, .inl (ca 0, 1020, .inl (sh B (k + 1))))] H := hP
        have hD : va_D A [(o, .inr (4, (.ref sa :: .ref ba :: .int (nI 6) :: fs))), (sa, .inl (ca 0, 170, .inl g)), (ba, .inl (ca 0, 1020, .inl (sh B (k + 1))))] := hD
        refine lv_iinc (v := nI (k + 1)) (lv' := [(1, .int (nI (k + 1))), (0, .ref o)]) hx hb d_M_know_34 hl (k := 0) rfl (nI_1 k) (by decide) rfl (fun ls hl => ?_)
        refine lv_goto (tgt := 11) hx hb d_M_know_37 (by decide) ?_
        exact ih (k + 1) (by omega) (by omega) _ _ hP hD hS _ (lv_sub hl [0, 1] rfl)
set_option maxHeartbeats 4000000 in
set_option maxRecDepth 100000 in
theorem c_M_length (l : Launch) (D : va_G) (ca : Nat → ClassId) (o sa ba : Nat) (fs : List Value) (g B : Nat → Int32) (n : Nat) (x : Int32) (hB : BN g) (hn6 : n ≤ 6) : MI l y_M_length b_M_length 3 (some .int) 1 22 D ca [.ref o, .int x] [(o, .inr (4, (.ref sa :: .ref ba :: .int (nI n) :: fs))), (sa, .inl (ca 0, 170, .inl g)), (ba, .inl (ca 0, 1020, .inl B))] ((m_len g x).1) [(o, .inr (4, (.ref sa :: .ref ba :: .int (nI (kbn (m_len g x).2.2 n)) :: fs))), (sa, .inl (ca 0, 170, .inl ((m_len g x).2.1))), (ba, .inl (ca 0, 1020, .inl (kbB (m_len g x).2.2 g B n)))] := by
  refine MI.mk (ty := .int) rfl rfl (Nat.le_of_ble_eq_true rfl) ?_
  intro p e s m args below meth c Q A S hA hP hD hK
  obtain ⟨hx, hb, hml, hown, hts⟩ := id S
  intro hret ls hl0 hS
  have hl : lv_has ls 3 [(0, .ref o), (1, .int x)] := hl0
  refine lv_iload_n hx hb d_M_length_0 rfl (lv_at hl 1 rfl) ?_
  refine lv_bipush (v := 100) hx hb d_M_length_1 (by decide) ?_
  refine lv_sipush (v := 2000) hx hb d_M_length_3 (by decide) ?_
  refine RO.callS S (c_M_in l D ca  x 100 2000 ) k_M_26 hK rfl rfl hl.1 ⟨Nat.le_of_ble_eq_true rfl, Nat.le_of_ble_eq_true rfl⟩ ⟨Nat.zero_le _, Nat.zero_le _⟩ (Nat.le_of_ble_eq_true rfl) d_M_length_6 ?_
  refine lv_if_ne (tgt := 15) hx hb d_M_length_9 (by decide) (fun c_9 => ?_) (fun c_9 => ?_)
  · refine lv_aload_n hx hb d_M_length_15 rfl (lv_at hl 0 rfl) ?_
    refine f_get S cls_M hK hP 0 rfl 0 (by decide) fl_M_s rfl rfl d_M_length_16 ?_
    refine lv_bipush (v := 8) hx hb d_M_length_19 (by decide) ?_
    refine A_ild S hK hP 1 0 (f := g) rfl rfl (r := 8) (by omega) (by decide) rfl d_M_length_21 ?_
    refine lv_tope (z := nI (bn g 0)) ((hB 0 (by omega)).1) ?_
    refine lv_aload_n hx hb d_M_length_22 rfl (lv_at hl 0 rfl) ?_
    refine f_get S cls_M hK hP 0 rfl 0 (by decide) fl_M_s rfl rfl d_M_length_23 ?_
    refine lv_bipush (v := 9) hx hb d_M_length_26 (by decide) ?_
    refine A_ild S hK hP 1 0 (f := g) rfl rfl (r := 9) (by omega) (by decide) rfl d_M_length_28 ?_
    refine lv_tope (z := nI (bn g 1)) ((hB 1 (by omega)).1) ?_
    refine lv_iadd hx hb d_M_length_29 ?_
    refine lv_tope (z := nI ((bn g 0) + (bn g 1))) (nI_add (bn g 0) (bn g 1)) ?_
    refine lv_if_gt (tgt := 42) hx hb d_M_length_30 (by decide) (fun c_30 => ?_) (fun c_30 => ?_)
    · refine lv_bipush (v := (-5)) hx hb d_M_length_42 (by decide) ?_
      exact hret _ _ _ _ _ _ d_M_length_44 rfl (by first | (simp only [m_len, c_9, c_30, ↓reduceIte]; done) | (simp only [m_len, c_9, c_30, ↓reduceIte]; rfl) | rfl) (by first | (simp only [m_len, c_9, c_30, ↓reduceIte]; done) | (simp only [m_len, c_9, c_30, ↓reduceIte]; rfl) | rfl) hP hD hS
    · refine lv_aload_n hx hb d_M_length_33 rfl (lv_at hl 0 rfl) ?_
      refine f_get S cls_M hK hP 0 rfl 0 (by decide) fl_M_s rfl rfl d_M_length_34 ?_
      refine lv_iconst (v := 4) hx hb d_M_length_37 (by decide) ?_
      refine A_ild S hK hP 1 0 (f := g) rfl rfl (r := 4) (by omega) (by decide) rfl d_M_length_38 ?_
      refine lv_if_le (tgt := 45) hx hb d_M_length_39 (by decide) (fun c_39 => ?_) (fun c_39 => ?_)
      · refine lv_aload_n hx hb d_M_length_45 rfl (lv_at hl 0 rfl) ?_
        refine MV.callV (wr := []) S (c_M_know l D ca  o sa ba (fs) g B n (by omega)) k_M_82 hP hD hS hA hK [0, 1, 2] [] rfl rfl (by decide) (by decide) (by decide) 0 (ci := 4) (fs := (.ref sa :: .ref ba :: .int (nI n) :: fs)) rfl rfl rfl rfl hl.1 ⟨Nat.le_of_ble_eq_true rfl, Nat.le_of_ble_eq_true rfl⟩ ⟨Nat.zero_le _, Nat.zero_le _⟩ (Nat.le_of_ble_eq_true rfl) d_M_length_46 (fun H locs hP hD hS => ?_)
        have hP : va_P D classes [(o, .inr (4, (.ref sa :: .ref ba :: .int (nI (knn n)) :: fs))), (sa, .inl (ca 0, 170, .inl g)), (ba, .inl (ca 0, 1020, .inl (knB g B n)))] H := hP
        have hD : va_D A [(o, .inr (4, (.ref sa :: .ref ba :: .int (nI (knn n)) :: fs))), (sa, .inl (ca 0, 170, .inl g)), (ba, .inl (ca 0, 1020, .inl (knB g B n)))] := hD
        refine lv_aload_n hx hb d_M_length_49 rfl (lv_at hl 0 rfl) ?_
        refine f_get S cls_M hK hP 0 rfl 0 (by decide) fl_M_s rfl rfl d_M_length_50 ?_
        refine lv_iconst (v := 0) hx hb d_M_length_53 (by decide) ?_
        refine A_ild S hK hP 1 0 (f := g) rfl rfl (r := 0) (by omega) (by decide) rfl d_M_length_54 ?_
        refine lv_istore_n (lv' := [(2, .int (g 0)), (0, .ref o), (1, .int x)]) hx hb d_M_length_55 rfl hl (by decide) rfl (fun ls hl => ?_)
        refine lv_aload_n hx hb d_M_length_56 rfl (lv_at hl 1 rfl) ?_
        refine f_get S cls_M hK hP 0 rfl 0 (by decide) fl_M_s rfl rfl d_M_length_57 ?_
        refine lv_iconst (v := 0) hx hb d_M_length_60 (by decide) ?_
        refine lv_iload_n hx hb d_M_length_61 rfl (lv_at hl 2 rfl) ?_
        refine A_ist S hK hP hD hS 1 0 (f := g) rfl rfl (r := 0) (by omega) (by decide) rfl d_M_length_62 (fun H locs hP hD hS => ?_)
        obtain ⟨g1, hg1⟩ : ∃ z : Nat → Int32, z = upd g 0 x := ⟨_, rfl⟩
        rw [← hg1] at hP hD
        have hP : va_P D classes [(o, .inr (4, (.ref sa :: .ref ba :: .int (nI (knn n)) :: fs))), (sa, .inl (ca 0, 170, .inl g1)), (ba, .inl (ca 0, 1020, .inl (knB g B n)))] H := hP
        have hD : va_D A [(o, .inr (4, (.ref sa :: .ref ba :: .int (nI (knn n)) :: fs))), (sa, .inl (ca 0, 170, .inl g1)), (ba, .inl (ca 0, 1020, .inl (knB g B n)))] := hD
        refine lv_aload_n hx hb d_M_length_63 rfl (lv_at hl 1 rfl) ?_
        refine f_get S cls_M hK hP 0 rfl 0 (by decide) fl_M_s rfl rfl d_M_length_64 ?_
        refine lv_iconst (v := 3) hx hb d_M_length_67 (by decide) ?_
        refine lv_aload_n hx hb d_M_length_68 rfl (lv_at hl 1 rfl) ?_
        refine f_get S cls_M hK hP 0 rfl 0 (by decide) fl_M_s rfl rfl d_M_length_69 ?_
        refine lv_iconst (v := 3) hx hb d_M_length_72 (by decide) ?_
        refine A_ild S hK hP 1 0 (f := g1) rfl rfl (r := 3) (by omega) (by decide) rfl d_M_length_73 ?_
        refine lv_iload_n hx hb d_M_length_74 rfl (lv_at hl 2 rfl) ?_
        refine lv_icmp_le (tgt := 82) hx hb d_M_length_75 (by decide) (fun c_75 => ?_) (fun c_75 => ?_)
        · refine lv_aload_n hx hb d_M_length_82 rfl (lv_at hl 1 rfl) ?_
          refine f_get S cls_M hK hP 0 rfl 0 (by decide) fl_M_s rfl rfl d_M_length_83 ?_
          refine lv_iconst (v := 3) hx hb d_M_length_86 (by decide) ?_
          refine A_ild S hK hP 1 0 (f := g1) rfl rfl (r := 3) (by omega) (by decide) rfl d_M_length_87 ?_
          refine A_ist S hK hP hD hS 1 0 (f := g1) rfl rfl (r := 3) (by omega) (by decide) rfl d_M_length_88 (fun H locs hP hD hS => ?_)
          obtain ⟨g2, hg2⟩ : ∃ z : Nat → Int32, z = upd g1 3 (g1 3) := ⟨_, rfl⟩
          rw [← hg2] at hP hD
          have hP : va_P D classes [(o, .inr (4, (.ref sa :: .ref ba :: .int (nI (knn n)) :: fs))), (sa, .inl (ca 0, 170, .inl g2)), (ba, .inl (ca 0, 1020, .inl (knB g B n)))] H := hP
          have hD : va_D A [(o, .inr (4, (.ref sa :: .ref ba :: .int (nI (knn n)) :: fs))), (sa, .inl (ca 0, 170, .inl g2)), (ba, .inl (ca 0, 1020, .inl (knB g B n)))] := hD
          refine lv_iload_n hx hb d_M_length_89 rfl (lv_at hl 0 rfl) ?_
          exact hret _ _ _ _ _ _ d_M_length_90 rfl (by subst hg1 hg2; first | (simp only [m_len, c_9, c_30, c_39, c_75, ↓reduceIte]; done) | (simp only [m_len, c_9, c_30, c_39, c_75, ↓reduceIte]; rfl) | rfl) (by subst hg1 hg2; first | (simp only [m_len, c_9, c_30, c_39, c_75, ↓reduceIte]; done) | (simp only [m_len, c_9, c_30, c_39, c_75, ↓reduceIte]; rfl) | rfl) hP hD hS
        · refine lv_iload_n hx hb d_M_length_78 rfl (lv_at hl 2 rfl) ?_
          refine lv_goto (tgt := 88) hx hb d_M_length_79 (by decide) ?_
          refine A_ist S hK hP hD hS 1 0 (f := g1) rfl rfl (r := 3) (by omega) (by decide) rfl d_M_length_88 (fun H locs hP hD hS => ?_)
          obtain ⟨g3, hg3⟩ : ∃ z : Nat → Int32, z = upd g1 3 x := ⟨_, rfl⟩
          rw [← hg3] at hP hD
          have hP : va_P D classes [(o, .inr (4, (.ref sa :: .ref ba :: .int (nI (knn n)) :: fs))), (sa, .inl (ca 0, 170, .inl g3)), (ba, .inl (ca 0, 1020, .inl (knB g B n)))] H := hP
          have hD : va_D A [(o, .inr (4, (.ref sa :: .ref ba :: .int (nI (knn n)) :: fs))), (sa, .inl (ca 0, 170, .inl g3)), (ba, .inl (ca 0, 1020, .inl (knB g B n)))] := hD
          refine lv_iload_n hx hb d_M_length_89 rfl (lv_at hl 0 rfl) ?_
          exact hret _ _ _ _ _ _ d_M_length_90 rfl (by subst hg1 hg3; first | (simp only [m_len, c_9, c_30, c_39, c_75, ↓reduceIte]; done) | (simp only [m_len, c_9, c_30, c_39, c_75, ↓reduceIte]; rfl) | rfl) (by subst hg1 hg3; first | (simp only [m_len, c_9, c_30, c_39, c_75, ↓reduceIte]; done) | (simp only [m_len, c_9, c_30, c_39, c_75, ↓reduceIte]; rfl) | rfl) hP hD hS
      · refine lv_bipush (v := (-5)) hx hb d_M_length_42 (by decide) ?_
        exact hret _ _ _ _ _ _ d_M_length_44 rfl (by first | (simp only [m_len, c_9, c_30, c_39, ↓reduceIte]; done) | (simp only [m_len, c_9, c_30, c_39, ↓reduceIte]; rfl) | rfl) (by first | (simp only [m_len, c_9, c_30, c_39, ↓reduceIte]; done) | (simp only [m_len, c_9, c_30, c_39, ↓reduceIte]; rfl) | rfl) hP hD hS
  · refine lv_bipush (v := (-2)) hx hb d_M_length_12 (by decide) ?_
    exact hret _ _ _ _ _ _ d_M_length_14 rfl (by first | (simp only [m_len, c_9, ↓reduceIte]; done) | (simp only [m_len, c_9, ↓reduceIte]; rfl) | rfl) (by first | (simp only [m_len, c_9, ↓reduceIte]; done) | (simp only [m_len, c_9, ↓reduceIte]; rfl) | rfl) hP hD hS
set_option maxHeartbeats 4000000 in
set_option maxRecDepth 100000 in
theorem c_M_tune (l : Launch) (D : va_G) (ca : Nat → ClassId) (o sa ba : Nat) (fs : List Value) (g B : Nat → Int32) (n : Nat) (x y : Int32) (hB : BN g) (hn6 : n ≤ 6) : MI l y_M_tune b_M_tune 4 (some .int) 6 130 D ca [.ref o, .int x, .int y] [(o, .inr (4, (.ref sa :: .ref ba :: .int (nI n) :: fs))), (sa, .inl (ca 0, 170, .inl g)), (ba, .inl (ca 0, 1020, .inl B))] ((m_tun g x y).1) [(o, .inr (4, (.ref sa :: .ref ba :: .int (nI (kbn (m_tun g x y).2.2 n)) :: fs))), (sa, .inl (ca 0, 170, .inl ((m_tun g x y).2.1))), (ba, .inl (ca 0, 1020, .inl (kbB (m_tun g x y).2.2 g B n)))] := by
  refine MI.mk (ty := .int) rfl rfl (Nat.le_of_ble_eq_true rfl) ?_
  intro p e s m args below meth c Q A S hA hP hD hK
  obtain ⟨hx, hb, hml, hown, hts⟩ := id S
  intro hret ls hl0 hS
  have hl : lv_has ls 4 [(0, .ref o), (1, .int x), (2, .int y)] := hl0
  refine lv_iload_n hx hb d_M_tune_0 rfl (lv_at hl 1 rfl) ?_
  refine lv_iconst (v := 1) hx hb d_M_tune_1 (by decide) ?_
  refine lv_bipush (v := 99) hx hb d_M_tune_2 (by decide) ?_
  refine RO.callS S (c_M_in l D ca  x 1 99 ) k_M_26 hK rfl rfl hl.1 ⟨Nat.le_of_ble_eq_true rfl, Nat.le_of_ble_eq_true rfl⟩ ⟨Nat.zero_le _, Nat.zero_le _⟩ (Nat.le_of_ble_eq_true rfl) d_M_tune_4 ?_
  refine lv_if_eq (tgt := 20) hx hb d_M_tune_7 (by decide) (fun c_7 => ?_) (fun c_7 => ?_)
  · refine lv_bipush (v := (-2)) hx hb d_M_tune_20 (by decide) ?_
    exact hret _ _ _ _ _ _ d_M_tune_22 rfl (by first | (simp only [m_tun, c_7, ↓reduceIte]; done) | (simp only [m_tun, c_7, ↓reduceIte]; rfl) | rfl) (by first | (simp only [m_tun, c_7, ↓reduceIte]; done) | (simp only [m_tun, c_7, ↓reduceIte]; rfl) | rfl) hP hD hS
  · refine lv_iload_n hx hb d_M_tune_10 rfl (lv_at hl 2 rfl) ?_
    refine lv_iconst (v := 1) hx hb d_M_tune_11 (by decide) ?_
    refine lv_bipush (v := 9) hx hb d_M_tune_12 (by decide) ?_
    refine RO.callS S (c_M_in l D ca  y 1 9 ) k_M_26 hK rfl rfl hl.1 ⟨Nat.le_of_ble_eq_true rfl, Nat.le_of_ble_eq_true rfl⟩ ⟨Nat.zero_le _, Nat.zero_le _⟩ (Nat.le_of_ble_eq_true rfl) d_M_tune_14 ?_
    refine lv_if_ne (tgt := 23) hx hb d_M_tune_17 (by decide) (fun c_17 => ?_) (fun c_17 => ?_)
    · refine lv_aload_n hx hb d_M_tune_23 rfl (lv_at hl 0 rfl) ?_
      refine RO.callV S (c_M_gap l D ca o sa (.ref ba :: .int (nI n) :: fs) g  hB) k_M_70 hP hK [0, 1] rfl 0 (ci := 4) (fs := (.ref sa :: .ref ba :: .int (nI n) :: fs)) rfl rfl rfl rfl hl.1 ⟨Nat.le_of_ble_eq_true rfl, Nat.le_of_ble_eq_true rfl⟩ ⟨Nat.zero_le _, Nat.zero_le _⟩ (Nat.le_of_ble_eq_true rfl) d_M_tune_24 ?_
      refine lv_iload_n hx hb d_M_tune_27 rfl (lv_at hl 1 rfl) ?_
      refine lv_icmp_ge (tgt := 34) hx hb d_M_tune_28 (by decide) (fun c_28 => ?_) (fun c_28 => ?_)
      · refine lv_aload_n hx hb d_M_tune_34 rfl (lv_at hl 0 rfl) ?_
        refine MV.callV (wr := []) S (c_M_know l D ca  o sa ba (fs) g B n (by omega)) k_M_82 hP hD hS hA hK [0, 1, 2] [] rfl rfl (by decide) (by decide) (by decide) 0 (ci := 4) (fs := (.ref sa :: .ref ba :: .int (nI n) :: fs)) rfl rfl rfl rfl hl.1 ⟨Nat.le_of_ble_eq_true rfl, Nat.le_of_ble_eq_true rfl⟩ ⟨Nat.zero_le _, Nat.zero_le _⟩ (Nat.le_of_ble_eq_true rfl) d_M_tune_35 (fun H locs hP hD hS => ?_)
        have hP : va_P D classes [(o, .inr (4, (.ref sa :: .ref ba :: .int (nI (knn n)) :: fs))), (sa, .inl (ca 0, 170, .inl g)), (ba, .inl (ca 0, 1020, .inl (knB g B n)))] H := hP
        have hD : va_D A [(o, .inr (4, (.ref sa :: .ref ba :: .int (nI (knn n)) :: fs))), (sa, .inl (ca 0, 170, .inl g)), (ba, .inl (ca 0, 1020, .inl (knB g B n)))] := hD
        refine lv_aload_n hx hb d_M_tune_38 rfl (lv_at hl 0 rfl) ?_
        refine f_get S cls_M hK hP 0 rfl 0 (by decide) fl_M_s rfl rfl d_M_tune_39 ?_
        refine lv_iconst (v := 1) hx hb d_M_tune_42 (by decide) ?_
        refine A_ild S hK hP 1 0 (f := g) rfl rfl (r := 1) (by omega) (by decide) rfl d_M_tune_43 ?_
        refine lv_bipush (v := 100) hx hb d_M_tune_44 (by decide) ?_
        refine lv_aload_n hx hb d_M_tune_46 rfl (lv_at hl 0 rfl) ?_
        refine f_get S cls_M hK hP 0 rfl 0 (by decide) fl_M_s rfl rfl d_M_tune_47 ?_
        refine lv_iconst (v := 2) hx hb d_M_tune_50 (by decide) ?_
        refine A_ild S hK hP 1 0 (f := g) rfl rfl (r := 2) (by omega) (by decide) rfl d_M_tune_51 ?_
        refine lv_imul hx hb d_M_tune_52 ?_
        refine lv_iadd hx hb d_M_tune_53 ?_
        refine lv_istore_n (lv' := [(3, .int ((g 1) + (100 * (g 2)))), (0, .ref o), (1, .int x), (2, .int y)]) hx hb d_M_tune_54 rfl hl (by decide) rfl (fun ls hl => ?_)
        refine lv_aload_n hx hb d_M_tune_55 rfl (lv_at hl 1 rfl) ?_
        refine f_get S cls_M hK hP 0 rfl 0 (by decide) fl_M_s rfl rfl d_M_tune_56 ?_
        refine lv_iconst (v := 1) hx hb d_M_tune_59 (by decide) ?_
        refine lv_iload_n hx hb d_M_tune_60 rfl (lv_at hl 2 rfl) ?_
        refine A_ist S hK hP hD hS 1 0 (f := g) rfl rfl (r := 1) (by omega) (by decide) rfl d_M_tune_61 (fun H locs hP hD hS => ?_)
        obtain ⟨g1, hg1⟩ : ∃ z : Nat → Int32, z = upd g 1 x := ⟨_, rfl⟩
        rw [← hg1] at hP hD
        have hP : va_P D classes [(o, .inr (4, (.ref sa :: .ref ba :: .int (nI (knn n)) :: fs))), (sa, .inl (ca 0, 170, .inl g1)), (ba, .inl (ca 0, 1020, .inl (knB g B n)))] H := hP
        have hD : va_D A [(o, .inr (4, (.ref sa :: .ref ba :: .int (nI (knn n)) :: fs))), (sa, .inl (ca 0, 170, .inl g1)), (ba, .inl (ca 0, 1020, .inl (knB g B n)))] := hD
        refine lv_aload_n hx hb d_M_tune_62 rfl (lv_at hl 1 rfl) ?_
        refine f_get S cls_M hK hP 0 rfl 0 (by decide) fl_M_s rfl rfl d_M_tune_63 ?_
        refine lv_iconst (v := 2) hx hb d_M_tune_66 (by decide) ?_
        refine lv_iload_n hx hb d_M_tune_67 rfl (lv_at hl 3 rfl) ?_
        refine A_ist S hK hP hD hS 1 0 (f := g1) rfl rfl (r := 2) (by omega) (by decide) rfl d_M_tune_68 (fun H locs hP hD hS => ?_)
        obtain ⟨g2, hg2⟩ : ∃ z : Nat → Int32, z = upd g1 2 y := ⟨_, rfl⟩
        rw [← hg2] at hP hD
        have hP : va_P D classes [(o, .inr (4, (.ref sa :: .ref ba :: .int (nI (knn n)) :: fs))), (sa, .inl (ca 0, 170, .inl g2)), (ba, .inl (ca 0, 1020, .inl (knB g B n)))] H := hP
        have hD : va_D A [(o, .inr (4, (.ref sa :: .ref ba :: .int (nI (knn n)) :: fs))), (sa, .inl (ca 0, 170, .inl g2)), (ba, .inl (ca 0, 1020, .inl (knB g B n)))] := hD
        refine lv_iload_n hx hb d_M_tune_69 rfl (lv_at hl 0 rfl) ?_
        exact hret _ _ _ _ _ _ d_M_tune_70 rfl (by subst hg1 hg2; first | (simp only [m_tun, c_7, c_17, c_28, ↓reduceIte]; done) | (simp only [m_tun, c_7, c_17, c_28, ↓reduceIte]; rfl) | rfl) (by subst hg1 hg2; first | (simp only [m_tun, c_7, c_17, c_28, ↓reduceIte]; done) | (simp only [m_tun, c_7, c_17, c_28, ↓reduceIte]; rfl) | rfl) hP hD hS
      · refine lv_bipush (v := (-5)) hx hb d_M_tune_31 (by decide) ?_
        exact hret _ _ _ _ _ _ d_M_tune_33 rfl (by first | (simp only [m_tun, c_7, c_17, c_28, ↓reduceIte]; done) | (simp only [m_tun, c_7, c_17, c_28, ↓reduceIte]; rfl) | rfl) (by first | (simp only [m_tun, c_7, c_17, c_28, ↓reduceIte]; done) | (simp only [m_tun, c_7, c_17, c_28, ↓reduceIte]; rfl) | rfl) hP hD hS
    · refine lv_bipush (v := (-2)) hx hb d_M_tune_20 (by decide) ?_
      exact hret _ _ _ _ _ _ d_M_tune_22 rfl (by first | (simp only [m_tun, c_7, c_17, ↓reduceIte]; done) | (simp only [m_tun, c_7, c_17, ↓reduceIte]; rfl) | rfl) (by first | (simp only [m_tun, c_7, c_17, ↓reduceIte]; done) | (simp only [m_tun, c_7, c_17, ↓reduceIte]; rfl) | rfl) hP hD hS
set_option maxHeartbeats 4000000 in
set_option maxRecDepth 100000 in
theorem c_M_write (l : Launch) (D : va_G) (ca : Nat → ClassId) (o sa ba : Nat) (fs : List Value) (g B : Nat → Int32) (n : Nat) (x d u : Int32) (hB : BN g) (hn6 : n ≤ 6) : MI l y_M_write b_M_write 5 (some .int) 7 153 D ca [.ref o, .int x, .int d, .int u] [(o, .inr (4, (.ref sa :: .ref ba :: .int (nI n) :: fs))), (sa, .inl (ca 0, 170, .inl g)), (ba, .inl (ca 0, 1020, .inl B))] ((m_add g x d u).1) [(o, .inr (4, (.ref sa :: .ref ba :: .int (nI (kbn (m_add g x d u).2.2 n)) :: fs))), (sa, .inl (ca 0, 170, .inl ((m_add g x d u).2.1))), (ba, .inl (ca 0, 1020, .inl (kbB (m_add g x d u).2.2 g B n)))] := by
  refine MI.mk (ty := .int) rfl rfl (Nat.le_of_ble_eq_true rfl) ?_
  intro p e s m args below meth c Q A S hA hP hD hK
  obtain ⟨hx, hb, hml, hown, hts⟩ := id S
  intro hret ls hl0 hS
  have hl : lv_has ls 5 [(0, .ref o), (1, .int x), (2, .int d), (3, .int u)] := hl0
  refine lv_aload_n hx hb d_M_write_0 rfl (lv_at hl 0 rfl) ?_
  refine lv_iload_n hx hb d_M_write_1 rfl (lv_at hl 1 rfl) ?_
  refine lv_iload_n hx hb d_M_write_2 rfl (lv_at hl 2 rfl) ?_
  refine lv_iload_n hx hb d_M_write_3 rfl (lv_at hl 3 rfl) ?_
  refine RO.callV S (c_M_writeFault l D ca o sa (.ref ba :: .int (nI n) :: fs) g x d u hB) k_M_85 hP hK [0, 1] rfl 0 (ci := 4) (fs := (.ref sa :: .ref ba :: .int (nI n) :: fs)) rfl rfl rfl rfl hl.1 ⟨Nat.le_of_ble_eq_true rfl, Nat.le_of_ble_eq_true rfl⟩ ⟨Nat.zero_le _, Nat.zero_le _⟩ (Nat.le_of_ble_eq_true rfl) d_M_write_4 ?_
  refine lv_istore (lv' := [(4, .int (m_wf g x d u)), (0, .ref o), (1, .int x), (2, .int d), (3, .int u)]) hx hb d_M_write_7 hl (by decide) rfl (fun ls hl => ?_)
  refine lv_iload hx hb d_M_write_9 (lv_at hl 0 rfl) ?_
  refine lv_if_ge (tgt := 17) hx hb d_M_write_11 (by decide) (fun c_11 => ?_) (fun c_11 => ?_)
  · obtain ⟨f, hf, rfl, hlt⟩ := mwf_of hB c_11
    have hcl : (nI f).toNatClampNeg = f := nI_clamp (by omega)
    refine lv_aload_n hx hb d_M_write_17 rfl (lv_at hl 1 rfl) ?_
    refine MV.callV (wr := []) S (c_M_know l D ca  o sa ba (fs) g B n (by omega)) k_M_82 hP hD hS hA hK [0, 1, 2] [] rfl rfl (by decide) (by decide) (by decide) 0 (ci := 4) (fs := (.ref sa :: .ref ba :: .int (nI n) :: fs)) rfl rfl rfl rfl hl.1 ⟨Nat.le_of_ble_eq_true rfl, Nat.le_of_ble_eq_true rfl⟩ ⟨Nat.zero_le _, Nat.zero_le _⟩ (Nat.le_of_ble_eq_true rfl) d_M_write_18 (fun H locs hP hD hS => ?_)
    have hP : va_P D classes [(o, .inr (4, (.ref sa :: .ref ba :: .int (nI (knn n)) :: fs))), (sa, .inl (ca 0, 170, .inl g)), (ba, .inl (ca 0, 1020, .inl (knB g B n)))] H := hP
    have hD : va_D A [(o, .inr (4, (.ref sa :: .ref ba :: .int (nI (knn n)) :: fs))), (sa, .inl (ca 0, 170, .inl g)), (ba, .inl (ca 0, 1020, .inl (knB g B n)))] := hD
    refine lv_aload_n hx hb d_M_write_21 rfl (lv_at hl 1 rfl) ?_
    refine lv_iload_n hx hb d_M_write_22 rfl (lv_at hl 2 rfl) ?_
    refine lv_iload_n hx hb d_M_write_23 rfl (lv_at hl 3 rfl) ?_
    refine lv_iload_n hx hb d_M_write_24 rfl (lv_at hl 4 rfl) ?_
    refine MI.callV (wr := [(ba, .inl (ca 0, 1020, .inl (knB g B n)))]) S (c_M_writes l D ca o sa (.ref ba :: .int (nI (knn n)) :: fs) g f d u hB (by omega) (by omega)) k_M_88 hP hD hS hA hK [0, 1] [2] rfl rfl (by decide) (by decide) (by decide) 0 (ci := 4) (fs := (.ref sa :: .ref ba :: .int (nI (knn n)) :: fs)) rfl rfl rfl rfl hl.1 ⟨Nat.le_of_ble_eq_true rfl, Nat.le_of_ble_eq_true rfl⟩ ⟨Nat.zero_le _, Nat.zero_le _⟩ (Nat.le_of_ble_eq_true rfl) d_M_write_25 (fun H locs hP hD hS => ?_)
    obtain ⟨g1, hg1⟩ : ∃ z : Nat → Int32, z = m_wr g f (bn g f) d u := ⟨_, rfl⟩
    rw [← hg1] at hP hD
    have hP : va_P D classes [(o, .inr (4, (.ref sa :: .ref ba :: .int (nI (knn n)) :: fs))), (sa, .inl (ca 0, 170, .inl g1)), (ba, .inl (ca 0, 1020, .inl (knB g B n)))] H := hP.sub [1, 2, 0] rfl
    have hD : va_D A [(o, .inr (4, (.ref sa :: .ref ba :: .int (nI (knn n)) :: fs))), (sa, .inl (ca 0, 170, .inl g1)), (ba, .inl (ca 0, 1020, .inl (knB g B n)))] := hD.sub [1, 2, 0] (by decide) rfl
    exact hret _ _ _ _ _ _ d_M_write_28 rfl (by subst hg1; first | (simp only [m_add, c_11, hcl, ↓reduceIte]; done) | (simp only [m_add, c_11, hcl, ↓reduceIte]; rfl) | rfl) (by subst hg1; first | (simp only [m_add, c_11, hcl, ↓reduceIte]; done) | (simp only [m_add, c_11, hcl, ↓reduceIte]; rfl) | rfl) hP hD hS
  · refine lv_iload hx hb d_M_write_14 (lv_at hl 0 rfl) ?_
    exact hret _ _ _ _ _ _ d_M_write_16 rfl (by first | (simp only [m_add, c_11, ↓reduceIte]; done) | (simp only [m_add, c_11, ↓reduceIte]; rfl) | rfl) (by first | (simp only [m_add, c_11, ↓reduceIte]; done) | (simp only [m_add, c_11, ↓reduceIte]; rfl) | rfl) hP hD hS
set_option maxHeartbeats 4000000 in
set_option maxRecDepth 100000 in
theorem c_M_cut (l : Launch) (D : va_G) (ca : Nat → ClassId) (o sa ba : Nat) (fs : List Value) (g B : Nat → Int32) (n : Nat) (x y : Int32) (hB : BN g) (hn6 : n ≤ 6) : MI l y_M_cut b_M_cut 4 (some .int) 3 64 D ca [.ref o, .int x, .int y] [(o, .inr (4, (.ref sa :: .ref ba :: .int (nI n) :: fs))), (sa, .inl (ca 0, 170, .inl g)), (ba, .inl (ca 0, 1020, .inl B))] ((m_cut g x y).1) [(o, .inr (4, (.ref sa :: .ref ba :: .int (nI (kbn (m_cut g x y).2.2 n)) :: fs))), (sa, .inl (ca 0, 170, .inl ((m_cut g x y).2.1))), (ba, .inl (ca 0, 1020, .inl (kbB (m_cut g x y).2.2 g B n)))] := by
  refine MI.mk (ty := .int) rfl rfl (Nat.le_of_ble_eq_true rfl) ?_
  intro p e s m args below meth c Q A S hA hP hD hK
  obtain ⟨hx, hb, hml, hown, hts⟩ := id S
  intro hret ls hl0 hS
  have hl : lv_has ls 4 [(0, .ref o), (1, .int x), (2, .int y)] := hl0
  refine lv_aload_n hx hb d_M_cut_0 rfl (lv_at hl 0 rfl) ?_
  refine lv_iload_n hx hb d_M_cut_1 rfl (lv_at hl 1 rfl) ?_
  refine lv_iload_n hx hb d_M_cut_2 rfl (lv_at hl 2 rfl) ?_
  refine RO.callV S (c_M_cutFault l D ca o sa (.ref ba :: .int (nI n) :: fs) g x y hB) k_M_91 hP hK [0, 1] rfl 0 (ci := 4) (fs := (.ref sa :: .ref ba :: .int (nI n) :: fs)) rfl rfl rfl rfl hl.1 ⟨Nat.le_of_ble_eq_true rfl, Nat.le_of_ble_eq_true rfl⟩ ⟨Nat.zero_le _, Nat.zero_le _⟩ (Nat.le_of_ble_eq_true rfl) d_M_cut_3 ?_
  refine lv_istore_n (lv' := [(3, .int (m_cf g x y)), (0, .ref o), (1, .int x), (2, .int y)]) hx hb d_M_cut_6 rfl hl (by decide) rfl (fun ls hl => ?_)
  refine lv_iload_n hx hb d_M_cut_7 rfl (lv_at hl 0 rfl) ?_
  refine lv_if_ge (tgt := 13) hx hb d_M_cut_8 (by decide) (fun c_8 => ?_) (fun c_8 => ?_)
  · obtain ⟨f, hf, rfl⟩ := mcf_of c_8
    have hcl : (nI f).toNatClampNeg = f := nI_clamp (by omega)
    refine lv_aload_n hx hb d_M_cut_13 rfl (lv_at hl 1 rfl) ?_
    refine MV.callV (wr := []) S (c_M_know l D ca  o sa ba (fs) g B n (by omega)) k_M_82 hP hD hS hA hK [0, 1, 2] [] rfl rfl (by decide) (by decide) (by decide) 0 (ci := 4) (fs := (.ref sa :: .ref ba :: .int (nI n) :: fs)) rfl rfl rfl rfl hl.1 ⟨Nat.le_of_ble_eq_true rfl, Nat.le_of_ble_eq_true rfl⟩ ⟨Nat.zero_le _, Nat.zero_le _⟩ (Nat.le_of_ble_eq_true rfl) d_M_cut_14 (fun H locs hP hD hS => ?_)
    have hP : va_P D classes [(o, .inr (4, (.ref sa :: .ref ba :: .int (nI (knn n)) :: fs))), (sa, .inl (ca 0, 170, .inl g)), (ba, .inl (ca 0, 1020, .inl (knB g B n)))] H := hP
    have hD : va_D A [(o, .inr (4, (.ref sa :: .ref ba :: .int (nI (knn n)) :: fs))), (sa, .inl (ca 0, 170, .inl g)), (ba, .inl (ca 0, 1020, .inl (knB g B n)))] := hD
    refine lv_aload_n hx hb d_M_cut_17 rfl (lv_at hl 1 rfl) ?_
    refine lv_iload_n hx hb d_M_cut_18 rfl (lv_at hl 2 rfl) ?_
    refine lv_iload_n hx hb d_M_cut_19 rfl (lv_at hl 3 rfl) ?_
    refine MI.callV (wr := [(ba, .inl (ca 0, 1020, .inl (knB g B n)))]) S (c_M_cuts l D ca o sa (.ref ba :: .int (nI (knn n)) :: fs) g f y hB (by omega)) k_M_94 hP hD hS hA hK [0, 1] [2] rfl rfl (by decide) (by decide) (by decide) 0 (ci := 4) (fs := (.ref sa :: .ref ba :: .int (nI (knn n)) :: fs)) rfl rfl rfl rfl hl.1 ⟨Nat.le_of_ble_eq_true rfl, Nat.le_of_ble_eq_true rfl⟩ ⟨Nat.zero_le _, Nat.zero_le _⟩ (Nat.le_of_ble_eq_true rfl) d_M_cut_20 (fun H locs hP hD hS => ?_)
    obtain ⟨g1, hg1⟩ : ∃ z : Nat → Int32, z = upd g (8 + f) y := ⟨_, rfl⟩
    rw [← hg1] at hP hD
    have hP : va_P D classes [(o, .inr (4, (.ref sa :: .ref ba :: .int (nI (knn n)) :: fs))), (sa, .inl (ca 0, 170, .inl g1)), (ba, .inl (ca 0, 1020, .inl (knB g B n)))] H := hP.sub [1, 2, 0] rfl
    have hD : va_D A [(o, .inr (4, (.ref sa :: .ref ba :: .int (nI (knn n)) :: fs))), (sa, .inl (ca 0, 170, .inl g1)), (ba, .inl (ca 0, 1020, .inl (knB g B n)))] := hD.sub [1, 2, 0] (by decide) rfl
    exact hret _ _ _ _ _ _ d_M_cut_23 rfl (by subst hg1; first | (simp only [m_cut, c_8, hcl, ↓reduceIte]; done) | (simp only [m_cut, c_8, hcl, ↓reduceIte]; rfl) | rfl) (by subst hg1; first | (simp only [m_cut, c_8, hcl, ↓reduceIte]; done) | (simp only [m_cut, c_8, hcl, ↓reduceIte]; rfl) | rfl) hP hD hS
  · refine lv_iload_n hx hb d_M_cut_11 rfl (lv_at hl 0 rfl) ?_
    exact hret _ _ _ _ _ _ d_M_cut_12 rfl (by first | (simp only [m_cut, c_8, ↓reduceIte]; done) | (simp only [m_cut, c_8, ↓reduceIte]; rfl) | rfl) (by first | (simp only [m_cut, c_8, ↓reduceIte]; done) | (simp only [m_cut, c_8, ↓reduceIte]; rfl) | rfl) hP hD hS
set_option maxHeartbeats 4000000 in
set_option maxRecDepth 100000 in
theorem c_M_move (l : Launch) (D : va_G) (ca : Nat → ClassId) (o sa ba : Nat) (fs : List Value) (g B : Nat → Int32) (n : Nat) (x : Int32) (hn6 : n ≤ 6) : MI l y_M_move b_M_move 2 (some .int) 3 64 D ca [.ref o, .int x] [(o, .inr (4, (.ref sa :: .ref ba :: .int (nI n) :: fs))), (sa, .inl (ca 0, 170, .inl g)), (ba, .inl (ca 0, 1020, .inl B))] ((m_mov g x).1) [(o, .inr (4, (.ref sa :: .ref ba :: .int (nI (kbn (m_mov g x).2.2 n)) :: fs))), (sa, .inl (ca 0, 170, .inl ((m_mov g x).2.1))), (ba, .inl (ca 0, 1020, .inl (kbB (m_mov g x).2.2 g B n)))] := by
  refine MI.mk (ty := .int) rfl rfl (Nat.le_of_ble_eq_true rfl) ?_
  intro p e s m args below meth c Q A S hA hP hD hK
  obtain ⟨hx, hb, hml, hown, hts⟩ := id S
  intro hret ls hl0 hS
  have hl : lv_has ls 2 [(0, .ref o), (1, .int x)] := hl0
  refine lv_iload_n hx hb d_M_move_0 rfl (lv_at hl 1 rfl) ?_
  refine lv_iconst (v := 0) hx hb d_M_move_1 (by decide) ?_
  refine lv_aload_n hx hb d_M_move_2 rfl (lv_at hl 0 rfl) ?_
  refine f_get S cls_M hK hP 0 rfl 0 (by decide) fl_M_s rfl rfl d_M_move_3 ?_
  refine lv_iconst (v := 0) hx hb d_M_move_6 (by decide) ?_
  refine A_ild S hK hP 1 0 (f := g) rfl rfl (r := 0) (by omega) (by decide) rfl d_M_move_7 ?_
  refine RO.callS S (c_M_in l D ca  x 0 (g 0) ) k_M_26 hK rfl rfl hl.1 ⟨Nat.le_of_ble_eq_true rfl, Nat.le_of_ble_eq_true rfl⟩ ⟨Nat.zero_le _, Nat.zero_le _⟩ (Nat.le_of_ble_eq_true rfl) d_M_move_8 ?_
  refine lv_if_ne (tgt := 17) hx hb d_M_move_11 (by decide) (fun c_11 => ?_) (fun c_11 => ?_)
  · refine lv_aload_n hx hb d_M_move_17 rfl (lv_at hl 0 rfl) ?_
    refine MV.callV (wr := []) S (c_M_know l D ca  o sa ba (fs) g B n (by omega)) k_M_82 hP hD hS hA hK [0, 1, 2] [] rfl rfl (by decide) (by decide) (by decide) 0 (ci := 4) (fs := (.ref sa :: .ref ba :: .int (nI n) :: fs)) rfl rfl rfl rfl hl.1 ⟨Nat.le_of_ble_eq_true rfl, Nat.le_of_ble_eq_true rfl⟩ ⟨Nat.zero_le _, Nat.zero_le _⟩ (Nat.le_of_ble_eq_true rfl) d_M_move_18 (fun H locs hP hD hS => ?_)
    have hP : va_P D classes [(o, .inr (4, (.ref sa :: .ref ba :: .int (nI (knn n)) :: fs))), (sa, .inl (ca 0, 170, .inl g)), (ba, .inl (ca 0, 1020, .inl (knB g B n)))] H := hP
    have hD : va_D A [(o, .inr (4, (.ref sa :: .ref ba :: .int (nI (knn n)) :: fs))), (sa, .inl (ca 0, 170, .inl g)), (ba, .inl (ca 0, 1020, .inl (knB g B n)))] := hD
    refine lv_aload_n hx hb d_M_move_21 rfl (lv_at hl 0 rfl) ?_
    refine lv_iload_n hx hb d_M_move_22 rfl (lv_at hl 1 rfl) ?_
    refine MI.callV (wr := [(ba, .inl (ca 0, 1020, .inl (knB g B n)))]) S (c_M_moves l D ca o sa (.ref ba :: .int (nI (knn n)) :: fs) g x ) k_M_97 hP hD hS hA hK [0, 1] [2] rfl rfl (by decide) (by decide) (by decide) 0 (ci := 4) (fs := (.ref sa :: .ref ba :: .int (nI (knn n)) :: fs)) rfl rfl rfl rfl hl.1 ⟨Nat.le_of_ble_eq_true rfl, Nat.le_of_ble_eq_true rfl⟩ ⟨Nat.zero_le _, Nat.zero_le _⟩ (Nat.le_of_ble_eq_true rfl) d_M_move_23 (fun H locs hP hD hS => ?_)
    obtain ⟨g1, hg1⟩ : ∃ z : Nat → Int32, z = tvm g x := ⟨_, rfl⟩
    rw [← hg1] at hP hD
    have hP : va_P D classes [(o, .inr (4, (.ref sa :: .ref ba :: .int (nI (knn n)) :: fs))), (sa, .inl (ca 0, 170, .inl g1)), (ba, .inl (ca 0, 1020, .inl (knB g B n)))] H := hP.sub [1, 2, 0] rfl
    have hD : va_D A [(o, .inr (4, (.ref sa :: .ref ba :: .int (nI (knn n)) :: fs))), (sa, .inl (ca 0, 170, .inl g1)), (ba, .inl (ca 0, 1020, .inl (knB g B n)))] := hD.sub [1, 2, 0] (by decide) rfl
    exact hret _ _ _ _ _ _ d_M_move_26 rfl (by subst hg1; first | (simp only [m_mov, c_11, ↓reduceIte]; done) | (simp only [m_mov, c_11, ↓reduceIte]; rfl) | rfl) (by subst hg1; first | (simp only [m_mov, c_11, ↓reduceIte]; done) | (simp only [m_mov, c_11, ↓reduceIte]; rfl) | rfl) hP hD hS
  · refine lv_bipush (v := (-2)) hx hb d_M_move_14 (by decide) ?_
    exact hret _ _ _ _ _ _ d_M_move_16 rfl (by first | (simp only [m_mov, c_11, ↓reduceIte]; done) | (simp only [m_mov, c_11, ↓reduceIte]; rfl) | rfl) (by first | (simp only [m_mov, c_11, ↓reduceIte]; done) | (simp only [m_mov, c_11, ↓reduceIte]; rfl) | rfl) hP hD hS
set_option maxHeartbeats 4000000 in
set_option maxRecDepth 100000 in
theorem c_M_rewind (l : Launch) (D : va_G) (ca : Nat → ClassId) (o sa ba : Nat) (fs : List Value) (g B : Nat → Int32) (n : Nat)  (hn6 : n ≤ 6) : MI l y_M_rewind b_M_rewind 1 (some .int) 3 62 D ca [.ref o] [(o, .inr (4, (.ref sa :: .ref ba :: .int (nI n) :: fs))), (sa, .inl (ca 0, 170, .inl g)), (ba, .inl (ca 0, 1020, .inl B))] ((((m_rew g).1, (m_rew g).2, true)).1) [(o, .inr (4, (.ref sa :: .ref ba :: .int (nI (kbn (((m_rew g).1, (m_rew g).2, true)).2.2 n)) :: fs))), (sa, .inl (ca 0, 170, .inl ((((m_rew g).1, (m_rew g).2, true)).2.1))), (ba, .inl (ca 0, 1020, .inl (kbB (((m_rew g).1, (m_rew g).2, true)).2.2 g B n)))] := by
  refine MI.mk (ty := .int) rfl rfl (Nat.le_of_ble_eq_true rfl) ?_
  intro p e s m args below meth c Q A S hA hP hD hK
  obtain ⟨hx, hb, hml, hown, hts⟩ := id S
  intro hret ls hl0 hS
  have hl : lv_has ls 1 [(0, .ref o)] := hl0
  refine lv_aload_n hx hb d_M_rewind_0 rfl (lv_at hl 0 rfl) ?_
  refine MV.callV (wr := []) S (c_M_know l D ca  o sa ba (fs) g B n (by omega)) k_M_82 hP hD hS hA hK [0, 1, 2] [] rfl rfl (by decide) (by decide) (by decide) 0 (ci := 4) (fs := (.ref sa :: .ref ba :: .int (nI n) :: fs)) rfl rfl rfl rfl hl.1 ⟨Nat.le_of_ble_eq_true rfl, Nat.le_of_ble_eq_true rfl⟩ ⟨Nat.zero_le _, Nat.zero_le _⟩ (Nat.le_of_ble_eq_true rfl) d_M_rewind_1 (fun H locs hP hD hS => ?_)
  have hP : va_P D classes [(o, .inr (4, (.ref sa :: .ref ba :: .int (nI (knn n)) :: fs))), (sa, .inl (ca 0, 170, .inl g)), (ba, .inl (ca 0, 1020, .inl (knB g B n)))] H := hP
  have hD : va_D A [(o, .inr (4, (.ref sa :: .ref ba :: .int (nI (knn n)) :: fs))), (sa, .inl (ca 0, 170, .inl g)), (ba, .inl (ca 0, 1020, .inl (knB g B n)))] := hD
  refine lv_aload_n hx hb d_M_rewind_4 rfl (lv_at hl 0 rfl) ?_
  refine MI.callV (wr := [(ba, .inl (ca 0, 1020, .inl (knB g B n)))]) S (c_M_rewinds l D ca o sa (.ref ba :: .int (nI (knn n)) :: fs) g  ) k_M_100 hP hD hS hA hK [0, 1] [2] rfl rfl (by decide) (by decide) (by decide) 0 (ci := 4) (fs := (.ref sa :: .ref ba :: .int (nI (knn n)) :: fs)) rfl rfl rfl rfl hl.1 ⟨Nat.le_of_ble_eq_true rfl, Nat.le_of_ble_eq_true rfl⟩ ⟨Nat.zero_le _, Nat.zero_le _⟩ (Nat.le_of_ble_eq_true rfl) d_M_rewind_5 (fun H locs hP hD hS => ?_)
  obtain ⟨g1, hg1⟩ : ∃ z : Nat → Int32, z = (m_rew g).2 := ⟨_, rfl⟩
  rw [← hg1] at hP hD
  have hP : va_P D classes [(o, .inr (4, (.ref sa :: .ref ba :: .int (nI (knn n)) :: fs))), (sa, .inl (ca 0, 170, .inl g1)), (ba, .inl (ca 0, 1020, .inl (knB g B n)))] H := hP.sub [1, 2, 0] rfl
  have hD : va_D A [(o, .inr (4, (.ref sa :: .ref ba :: .int (nI (knn n)) :: fs))), (sa, .inl (ca 0, 170, .inl g1)), (ba, .inl (ca 0, 1020, .inl (knB g B n)))] := hD.sub [1, 2, 0] (by decide) rfl
  exact hret _ _ _ _ _ _ d_M_rewind_8 rfl (by subst hg1; first | (simp only [↓reduceIte]; done) | (simp only [↓reduceIte]; rfl) | rfl) (by subst hg1; first | (simp only [↓reduceIte]; done) | (simp only [↓reduceIte]; rfl) | rfl) hP hD hS
set_option maxHeartbeats 4000000 in
set_option maxRecDepth 100000 in
theorem c_M_read (l : Launch) (D : va_G) (ca : Nat → ClassId) (o sa ba : Nat) (fs : List Value) (g B : Nat → Int32) (n : Nat) (x y z : Int32) (hB : BN g) (hn6 : n ≤ 6) : MI l y_M_read b_M_read 5 (some .int) 7 160 D ca [.ref o, .int x, .int y, .int z] [(o, .inr (4, (.ref sa :: .ref ba :: .int (nI n) :: fs))), (sa, .inl (ca 0, 170, .inl g)), (ba, .inl (ca 0, 1020, .inl B))] ((m_rd g x y z).1) [(o, .inr (4, (.ref sa :: .ref ba :: .int (nI (kbn (m_rd g x y z).2.2 n)) :: fs))), (sa, .inl (ca 0, 170, .inl ((m_rd g x y z).2.1))), (ba, .inl (ca 0, 1020, .inl (kbB (m_rd g x y z).2.2 g B n)))] := by
  refine MI.mk (ty := .int) rfl rfl (Nat.le_of_ble_eq_true rfl) ?_
  intro p e s m args below meth c Q A S hA hP hD hK
  obtain ⟨hx, hb, hml, hown, hts⟩ := id S
  intro hret ls hl0 hS
  have hl : lv_has ls 5 [(0, .ref o), (1, .int x), (2, .int y), (3, .int z)] := hl0
  refine lv_aload_n hx hb d_M_read_0 rfl (lv_at hl 0 rfl) ?_
  refine lv_iload_n hx hb d_M_read_1 rfl (lv_at hl 1 rfl) ?_
  refine lv_iload_n hx hb d_M_read_2 rfl (lv_at hl 2 rfl) ?_
  refine lv_iload_n hx hb d_M_read_3 rfl (lv_at hl 3 rfl) ?_
  refine RO.callV S (c_M_readFault l D ca o sa (.ref ba :: .int (nI n) :: fs) g x y z hB) k_M_103 hP hK [0, 1] rfl 0 (ci := 4) (fs := (.ref sa :: .ref ba :: .int (nI n) :: fs)) rfl rfl rfl rfl hl.1 ⟨Nat.le_of_ble_eq_true rfl, Nat.le_of_ble_eq_true rfl⟩ ⟨Nat.zero_le _, Nat.zero_le _⟩ (Nat.le_of_ble_eq_true rfl) d_M_read_4 ?_
  refine lv_istore (lv' := [(4, .int (m_rf g x y z)), (0, .ref o), (1, .int x), (2, .int y), (3, .int z)]) hx hb d_M_read_7 hl (by decide) rfl (fun ls hl => ?_)
  refine lv_iload hx hb d_M_read_9 (lv_at hl 0 rfl) ?_
  refine lv_if_ge (tgt := 17) hx hb d_M_read_11 (by decide) (fun c_11 => ?_) (fun c_11 => ?_)
  · obtain ⟨f, b, w, hf, hbn, hw, rfl, rfl, rfl⟩ := mrf_of hB c_11
    have hn20 := (hB f hf).2
    have hcl : (nI f).toNatClampNeg = f := nI_clamp (by omega)
    have hcb : (nI b).toNatClampNeg = b := nI_clamp (by omega)
    have hcw : (nI w).toNatClampNeg = w := nI_clamp (by omega)
    refine lv_aload_n hx hb d_M_read_17 rfl (lv_at hl 1 rfl) ?_
    refine MV.callV (wr := []) S (c_M_know l D ca  o sa ba (fs) g B n (by omega)) k_M_82 hP hD hS hA hK [0, 1, 2] [] rfl rfl (by decide) (by decide) (by decide) 0 (ci := 4) (fs := (.ref sa :: .ref ba :: .int (nI n) :: fs)) rfl rfl rfl rfl hl.1 ⟨Nat.le_of_ble_eq_true rfl, Nat.le_of_ble_eq_true rfl⟩ ⟨Nat.zero_le _, Nat.zero_le _⟩ (Nat.le_of_ble_eq_true rfl) d_M_read_18 (fun H locs hP hD hS => ?_)
    have hP : va_P D classes [(o, .inr (4, (.ref sa :: .ref ba :: .int (nI (knn n)) :: fs))), (sa, .inl (ca 0, 170, .inl g)), (ba, .inl (ca 0, 1020, .inl (knB g B n)))] H := hP
    have hD : va_D A [(o, .inr (4, (.ref sa :: .ref ba :: .int (nI (knn n)) :: fs))), (sa, .inl (ca 0, 170, .inl g)), (ba, .inl (ca 0, 1020, .inl (knB g B n)))] := hD
    refine lv_aload_n hx hb d_M_read_21 rfl (lv_at hl 1 rfl) ?_
    refine lv_iload_n hx hb d_M_read_22 rfl (lv_at hl 2 rfl) ?_
    refine lv_iload_n hx hb d_M_read_23 rfl (lv_at hl 3 rfl) ?_
    refine lv_iload_n hx hb d_M_read_24 rfl (lv_at hl 4 rfl) ?_
    refine MI.callV (wr := [(ba, .inl (ca 0, 1020, .inl (knB g B n)))]) S (c_M_reads l D ca o sa (.ref ba :: .int (nI (knn n)) :: fs) g f b w (by omega) (by omega) (by omega)) k_M_106 hP hD hS hA hK [0, 1] [2] rfl rfl (by decide) (by decide) (by decide) 0 (ci := 4) (fs := (.ref sa :: .ref ba :: .int (nI (knn n)) :: fs)) rfl rfl rfl rfl hl.1 ⟨Nat.le_of_ble_eq_true rfl, Nat.le_of_ble_eq_true rfl⟩ ⟨Nat.zero_le _, Nat.zero_le _⟩ (Nat.le_of_ble_eq_true rfl) d_M_read_25 (fun H locs hP hD hS => ?_)
    obtain ⟨g1, hg1⟩ : ∃ z : Nat → Int32, z = (m_rv g f b w).2 := ⟨_, rfl⟩
    rw [← hg1] at hP hD
    have hP : va_P D classes [(o, .inr (4, (.ref sa :: .ref ba :: .int (nI (knn n)) :: fs))), (sa, .inl (ca 0, 170, .inl g1)), (ba, .inl (ca 0, 1020, .inl (knB g B n)))] H := hP.sub [1, 2, 0] rfl
    have hD : va_D A [(o, .inr (4, (.ref sa :: .ref ba :: .int (nI (knn n)) :: fs))), (sa, .inl (ca 0, 170, .inl g1)), (ba, .inl (ca 0, 1020, .inl (knB g B n)))] := hD.sub [1, 2, 0] (by decide) rfl
    exact hret _ _ _ _ _ _ d_M_read_28 rfl (by subst hg1; first | (simp only [m_rd, c_11, hcl, hcb, hcw, ↓reduceIte]; done) | (simp only [m_rd, c_11, hcl, hcb, hcw, ↓reduceIte]; rfl) | rfl) (by subst hg1; first | (simp only [m_rd, c_11, hcl, hcb, hcw, ↓reduceIte]; done) | (simp only [m_rd, c_11, hcl, hcb, hcw, ↓reduceIte]; rfl) | rfl) hP hD hS
  · refine lv_iload hx hb d_M_read_14 (lv_at hl 0 rfl) ?_
    exact hret _ _ _ _ _ _ d_M_read_16 rfl (by first | (simp only [m_rd, c_11, ↓reduceIte]; done) | (simp only [m_rd, c_11, ↓reduceIte]; rfl) | rfl) (by first | (simp only [m_rd, c_11, ↓reduceIte]; done) | (simp only [m_rd, c_11, ↓reduceIte]; rfl) | rfl) hP hD hS
set_option maxHeartbeats 4000000 in
set_option maxRecDepth 100000 in
theorem c_M_splice (l : Launch) (D : va_G) (ca : Nat → ClassId) (o sa ba : Nat) (fs : List Value) (g B : Nat → Int32) (n : Nat) (x y : Int32) (hB : BN g) (hn6 : n ≤ 6) : MI l y_M_splice b_M_splice 7 (some .int) 6 138 D ca [.ref o, .int x, .int y] [(o, .inr (4, (.ref sa :: .ref ba :: .int (nI n) :: fs))), (sa, .inl (ca 0, 170, .inl g)), (ba, .inl (ca 0, 1020, .inl B))] ((m_spl g x y).1) [(o, .inr (4, (.ref sa :: .ref ba :: .int (nI (kbn (m_spl g x y).2.2 n)) :: fs))), (sa, .inl (ca 0, 170, .inl ((m_spl g x y).2.1))), (ba, .inl (ca 0, 1020, .inl (kbB (m_spl g x y).2.2 g B n)))] := by
  refine MI.mk (ty := .int) rfl rfl (Nat.le_of_ble_eq_true rfl) ?_
  intro p e s m args below meth c Q A S hA hP hD hK
  obtain ⟨hx, hb, hml, hown, hts⟩ := id S
  intro hret ls hl0 hS
  have hl : lv_has ls 7 [(0, .ref o), (1, .int x), (2, .int y)] := hl0
  refine lv_iload_n hx hb d_M_splice_0 rfl (lv_at hl 1 rfl) ?_
  refine lv_iconst (v := 0) hx hb d_M_splice_1 (by decide) ?_
  refine lv_aload_n hx hb d_M_splice_2 rfl (lv_at hl 0 rfl) ?_
  refine f_get S cls_M hK hP 0 rfl 0 (by decide) fl_M_s rfl rfl d_M_splice_3 ?_
  refine lv_iconst (v := 0) hx hb d_M_splice_6 (by decide) ?_
  refine A_ild S hK hP 1 0 (f := g) rfl rfl (r := 0) (by omega) (by decide) rfl d_M_splice_7 ?_
  refine lv_iconst (v := 1) hx hb d_M_splice_8 (by decide) ?_
  refine lv_isub hx hb d_M_splice_9 ?_
  refine RO.callS S (c_M_in l D ca  x 0 ((g 0) - 1) ) k_M_26 hK rfl rfl hl.1 ⟨Nat.le_of_ble_eq_true rfl, Nat.le_of_ble_eq_true rfl⟩ ⟨Nat.zero_le _, Nat.zero_le _⟩ (Nat.le_of_ble_eq_true rfl) d_M_splice_10 ?_
  refine lv_if_eq (tgt := 26) hx hb d_M_splice_13 (by decide) (fun c_13 => ?_) (fun c_13 => ?_)
  · refine lv_bipush (v := (-2)) hx hb d_M_splice_26 (by decide) ?_
    exact hret _ _ _ _ _ _ d_M_splice_28 rfl (by first | (simp only [m_spl, c_13, ↓reduceIte]; done) | (simp only [m_spl, c_13, ↓reduceIte]; rfl) | rfl) (by first | (simp only [m_spl, c_13, ↓reduceIte]; done) | (simp only [m_spl, c_13, ↓reduceIte]; rfl) | rfl) hP hD hS
  · refine lv_iload_n hx hb d_M_splice_16 rfl (lv_at hl 2 rfl) ?_
    refine lv_iconst (v := 1) hx hb d_M_splice_17 (by decide) ?_
    refine lv_bipush (v := 50) hx hb d_M_splice_18 (by decide) ?_
    refine RO.callS S (c_M_in l D ca  y 1 50 ) k_M_26 hK rfl rfl hl.1 ⟨Nat.le_of_ble_eq_true rfl, Nat.le_of_ble_eq_true rfl⟩ ⟨Nat.zero_le _, Nat.zero_le _⟩ (Nat.le_of_ble_eq_true rfl) d_M_splice_20 ?_
    refine lv_if_ne (tgt := 29) hx hb d_M_splice_23 (by decide) (fun c_23 => ?_) (fun c_23 => ?_)
    · refine lv_iload_n hx hb d_M_splice_29 rfl (lv_at hl 2 rfl) ?_
      refine lv_iconst (v := 1) hx hb d_M_splice_30 (by decide) ?_
      refine lv_iadd hx hb d_M_splice_31 ?_
      refine lv_istore_n (lv' := [(3, .int (y + 1)), (0, .ref o), (1, .int x), (2, .int y)]) hx hb d_M_splice_32 rfl hl (by decide) rfl (fun ls hl => ?_)
      refine lv_aload_n hx hb d_M_splice_33 rfl (lv_at hl 1 rfl) ?_
      refine lv_iload_n hx hb d_M_splice_34 rfl (lv_at hl 2 rfl) ?_
      refine lv_iload_n hx hb d_M_splice_35 rfl (lv_at hl 2 rfl) ?_
      refine lv_iload_n hx hb d_M_splice_36 rfl (lv_at hl 3 rfl) ?_
      refine lv_iadd hx hb d_M_splice_37 ?_
      refine RO.callV S (c_M_within l D ca o sa (.ref ba :: .int (nI n) :: fs) g x (x + y) hB) k_M_109 hP hK [0, 1] rfl 0 (ci := 4) (fs := (.ref sa :: .ref ba :: .int (nI n) :: fs)) rfl rfl rfl rfl hl.1 ⟨Nat.le_of_ble_eq_true rfl, Nat.le_of_ble_eq_true rfl⟩ ⟨Nat.zero_le _, Nat.zero_le _⟩ (Nat.le_of_ble_eq_true rfl) d_M_splice_38 ?_
      obtain ⟨v, hv⟩ : ∃ z, z = m_wi g x (x + y) := ⟨_, rfl⟩
      refine lv_tope (z := v) (hv.symm) ?_
      refine lv_istore (lv' := [(4, .int v), (3, .int (y + 1)), (0, .ref o), (1, .int x), (2, .int y)]) hx hb d_M_splice_41 hl (by decide) rfl (fun ls hl => ?_)
      refine lv_iload hx hb d_M_splice_43 (lv_at hl 0 rfl) ?_
      refine lv_bipush (v := (-6)) hx hb d_M_splice_45 (by decide) ?_
      refine lv_icmp_ne (tgt := 53) hx hb d_M_splice_47 (by decide) (fun c_47 => ?_) (fun c_47 => ?_)
      · refine lv_iload hx hb d_M_splice_53 (lv_at hl 0 rfl) ?_
        refine lv_if_ge (tgt := 62) hx hb d_M_splice_55 (by decide) (fun c_55 => ?_) (fun c_55 => ?_)
        · obtain ⟨k, hk, hvk⟩ := mwi_of (by rw [← hv]; exact c_55)
          obtain rfl : v = nI k := hv.trans hvk
          have hck : (nI k).toNatClampNeg = k := nI_clamp (by omega)
          refine lv_iload hx hb d_M_splice_62 (lv_at hl 0 rfl) ?_
          refine lv_bipush (v := 20) hx hb d_M_splice_64 (by decide) ?_
          refine lv_idiv hx hb d_M_splice_66 (by decide) ?_
          refine lv_tope (z := nI (k / 20)) (pk_div (by omega) (by decide) (by decide)) ?_
          refine lv_iload hx hb d_M_splice_67 (lv_at hl 0 rfl) ?_
          refine lv_bipush (v := 20) hx hb d_M_splice_69 (by decide) ?_
          refine lv_irem hx hb d_M_splice_71 (by decide) ?_
          refine lv_tope (z := nI (k % 20)) (pk_rem (by omega) (by decide) (by decide)) ?_
          refine lv_iconst (v := 0) hx hb d_M_splice_72 (by decide) ?_
          refine RO.callS S (c_M_of l D ca  (k / 20) (k % 20) 0 ) k_M_38 hK rfl rfl hl.1 ⟨Nat.le_of_ble_eq_true rfl, Nat.le_of_ble_eq_true rfl⟩ ⟨Nat.zero_le _, Nat.zero_le _⟩ (Nat.le_of_ble_eq_true rfl) d_M_splice_73 ?_
          refine lv_istore (lv' := [(5, .int (nI (10 + 4 * ((k / 20) * 20 + (k % 20)) + 0))), (4, .int (nI k)), (3, .int (y + 1)), (0, .ref o), (1, .int x), (2, .int y)]) hx hb d_M_splice_76 hl (by decide) rfl (fun ls hl => ?_)
          refine lv_iload hx hb d_M_splice_78 (lv_at hl 1 rfl) ?_
          refine lv_if_ge (tgt := 101) hx hb d_M_splice_80 (by decide) (fun _ => ?_) (fun q => absurd (c_55) q)
          refine lv_aload_n hx hb d_M_splice_101 rfl (lv_at hl 3 rfl) ?_
          refine f_get S cls_M hK hP 0 rfl 0 (by decide) fl_M_s rfl rfl d_M_splice_102 ?_
          refine lv_iload hx hb d_M_splice_105 (lv_at hl 0 rfl) ?_
          refine A_ild S hK hP 1 0 (f := g) rfl rfl (r := 10 + 4 * ((k / 20) * 20 + (k % 20)) + 0) (by omega) (by decide) rfl d_M_splice_107 ?_
          refine lv_iload_n hx hb d_M_splice_108 rfl (lv_at hl 2 rfl) ?_
          refine lv_isub hx hb d_M_splice_109 ?_
          refine lv_iconst (v := 1) hx hb d_M_splice_110 (by decide) ?_
          refine lv_icmp_ge (tgt := 117) hx hb d_M_splice_111 (by decide) (fun c_111 => ?_) (fun c_111 => ?_)
          · refine lv_aload_n hx hb d_M_splice_117 rfl (lv_at hl 3 rfl) ?_
            refine f_get S cls_M hK hP 0 rfl 0 (by decide) fl_M_s rfl rfl d_M_splice_118 ?_
            refine lv_iconst (v := 4) hx hb d_M_splice_121 (by decide) ?_
            refine A_ild S hK hP 1 0 (f := g) rfl rfl (r := 4) (by omega) (by decide) rfl d_M_splice_122 ?_
            refine lv_bipush (v := 9) hx hb d_M_splice_123 (by decide) ?_
            refine lv_icmp_ne (tgt := 131) hx hb d_M_splice_125 (by decide) (fun c_125 => ?_) (fun c_125 => ?_)
            · refine lv_aload_n hx hb d_M_splice_131 rfl (lv_at hl 3 rfl) ?_
              refine MV.callV (wr := []) S (c_M_know l D ca  o sa ba (fs) g B n (by omega)) k_M_82 hP hD hS hA hK [0, 1, 2] [] rfl rfl (by decide) (by decide) (by decide) 0 (ci := 4) (fs := (.ref sa :: .ref ba :: .int (nI n) :: fs)) rfl rfl rfl rfl hl.1 ⟨Nat.le_of_ble_eq_true rfl, Nat.le_of_ble_eq_true rfl⟩ ⟨Nat.zero_le _, Nat.zero_le _⟩ (Nat.le_of_ble_eq_true rfl) d_M_splice_132 (fun H locs hP hD hS => ?_)
              have hP : va_P D classes [(o, .inr (4, (.ref sa :: .ref ba :: .int (nI (knn n)) :: fs))), (sa, .inl (ca 0, 170, .inl g)), (ba, .inl (ca 0, 1020, .inl (knB g B n)))] H := hP
              have hD : va_D A [(o, .inr (4, (.ref sa :: .ref ba :: .int (nI (knn n)) :: fs))), (sa, .inl (ca 0, 170, .inl g)), (ba, .inl (ca 0, 1020, .inl (knB g B n)))] := hD
              refine lv_iload hx hb d_M_splice_135 (lv_at hl 1 rfl) ?_
              refine lv_if_lt (tgt := 161) hx hb d_M_splice_137 (by decide) (fun q => absurd q (not_lt_of c_55)) (fun _ => ?_)
              refine lv_aload_n hx hb d_M_splice_140 rfl (lv_at hl 3 rfl) ?_
              refine f_get S cls_M hK hP 0 rfl 0 (by decide) fl_M_s rfl rfl d_M_splice_141 ?_
              refine lv_iload hx hb d_M_splice_144 (lv_at hl 0 rfl) ?_
              refine lv_dup2_11 hx hb d_M_splice_146 rfl rfl ?_
              refine A_ild S hK hP 1 0 (f := g) rfl rfl (r := 10 + 4 * ((k / 20) * 20 + (k % 20)) + 0) (by omega) (by decide) rfl d_M_splice_147 ?_
              refine lv_iload_n hx hb d_M_splice_148 rfl (lv_at hl 2 rfl) ?_
              refine lv_isub hx hb d_M_splice_149 ?_
              refine A_ist S hK hP hD hS 1 0 (f := g) rfl rfl (r := 10 + 4 * ((k / 20) * 20 + (k % 20)) + 0) (by omega) (by decide) rfl d_M_splice_150 (fun H locs hP hD hS => ?_)
              obtain ⟨g1, hg1⟩ : ∃ z : Nat → Int32, z = upd g (10 + 4 * ((k / 20) * 20 + (k % 20)) + 0) ((g (10 + 4 * ((k / 20) * 20 + (k % 20)) + 0)) - (y + 1)) := ⟨_, rfl⟩
              rw [← hg1] at hP hD
              have hP : va_P D classes [(o, .inr (4, (.ref sa :: .ref ba :: .int (nI (knn n)) :: fs))), (sa, .inl (ca 0, 170, .inl g1)), (ba, .inl (ca 0, 1020, .inl (knB g B n)))] H := hP
              have hD : va_D A [(o, .inr (4, (.ref sa :: .ref ba :: .int (nI (knn n)) :: fs))), (sa, .inl (ca 0, 170, .inl g1)), (ba, .inl (ca 0, 1020, .inl (knB g B n)))] := hD
              refine lv_aload_n hx hb d_M_splice_151 rfl (lv_at hl 3 rfl) ?_
              refine f_get S cls_M hK hP 0 rfl 0 (by decide) fl_M_s rfl rfl d_M_splice_152 ?_
              refine lv_iload hx hb d_M_splice_155 (lv_at hl 0 rfl) ?_
              refine lv_iconst (v := 1) hx hb d_M_splice_157 (by decide) ?_
              refine lv_iadd hx hb d_M_splice_158 ?_
              refine lv_tope (z := nI ((10 + 4 * ((k / 20) * 20 + (k % 20)) + 0) + 1)) (nI_add (10 + 4 * ((k / 20) * 20 + (k % 20)) + 0) 1) ?_
              refine lv_iconst (v := 0) hx hb d_M_splice_159 (by decide) ?_
              refine A_ist S hK hP hD hS 1 0 (f := g1) rfl rfl (r := (10 + 4 * ((k / 20) * 20 + (k % 20)) + 0) + 1) (by omega) (by decide) rfl d_M_splice_160 (fun H locs hP hD hS => ?_)
              obtain ⟨g2, hg2⟩ : ∃ z : Nat → Int32, z = upd g1 ((10 + 4 * ((k / 20) * 20 + (k % 20)) + 0) + 1) 0 := ⟨_, rfl⟩
              rw [← hg2] at hP hD
              have hP : va_P D classes [(o, .inr (4, (.ref sa :: .ref ba :: .int (nI (knn n)) :: fs))), (sa, .inl (ca 0, 170, .inl g2)), (ba, .inl (ca 0, 1020, .inl (knB g B n)))] H := hP
              have hD : va_D A [(o, .inr (4, (.ref sa :: .ref ba :: .int (nI (knn n)) :: fs))), (sa, .inl (ca 0, 170, .inl g2)), (ba, .inl (ca 0, 1020, .inl (knB g B n)))] := hD
              refine lv_aload_n hx hb d_M_splice_161 rfl (lv_at hl 3 rfl) ?_
              refine f_get S cls_M hK hP 0 rfl 0 (by decide) fl_M_s rfl rfl d_M_splice_162 ?_
              refine lv_iconst (v := 0) hx hb d_M_splice_165 (by decide) ?_
              refine lv_dup2_11 hx hb d_M_splice_166 rfl rfl ?_
              refine A_ild S hK hP 1 0 (f := g2) rfl rfl (r := 0) (by omega) (by decide) rfl d_M_splice_167 ?_
              refine lv_iload_n hx hb d_M_splice_168 rfl (lv_at hl 2 rfl) ?_
              refine lv_isub hx hb d_M_splice_169 ?_
              refine A_ist S hK hP hD hS 1 0 (f := g2) rfl rfl (r := 0) (by omega) (by decide) rfl d_M_splice_170 (fun H locs hP hD hS => ?_)
              obtain ⟨g3, hg3⟩ : ∃ z : Nat → Int32, z = upd g2 0 ((g2 0) - (y + 1)) := ⟨_, rfl⟩
              rw [← hg3] at hP hD
              have hP : va_P D classes [(o, .inr (4, (.ref sa :: .ref ba :: .int (nI (knn n)) :: fs))), (sa, .inl (ca 0, 170, .inl g3)), (ba, .inl (ca 0, 1020, .inl (knB g B n)))] H := hP
              have hD : va_D A [(o, .inr (4, (.ref sa :: .ref ba :: .int (nI (knn n)) :: fs))), (sa, .inl (ca 0, 170, .inl g3)), (ba, .inl (ca 0, 1020, .inl (knB g B n)))] := hD
              refine lv_aload_n hx hb d_M_splice_171 rfl (lv_at hl 3 rfl) ?_
              refine f_get S cls_M hK hP 0 rfl 0 (by decide) fl_M_s rfl rfl d_M_splice_172 ?_
              refine lv_iconst (v := 4) hx hb d_M_splice_175 (by decide) ?_
              refine lv_dup2_11 hx hb d_M_splice_176 rfl rfl ?_
              refine A_ild S hK hP 1 0 (f := g3) rfl rfl (r := 4) (by omega) (by decide) rfl d_M_splice_177 ?_
              refine lv_iconst (v := 1) hx hb d_M_splice_178 (by decide) ?_
              refine lv_iadd hx hb d_M_splice_179 ?_
              refine A_ist S hK hP hD hS 1 0 (f := g3) rfl rfl (r := 4) (by omega) (by decide) rfl d_M_splice_180 (fun H locs hP hD hS => ?_)
              obtain ⟨g4, hg4⟩ : ∃ z : Nat → Int32, z = upd g3 4 ((g3 4) + 1) := ⟨_, rfl⟩
              rw [← hg4] at hP hD
              have hP : va_P D classes [(o, .inr (4, (.ref sa :: .ref ba :: .int (nI (knn n)) :: fs))), (sa, .inl (ca 0, 170, .inl g4)), (ba, .inl (ca 0, 1020, .inl (knB g B n)))] H := hP
              have hD : va_D A [(o, .inr (4, (.ref sa :: .ref ba :: .int (nI (knn n)) :: fs))), (sa, .inl (ca 0, 170, .inl g4)), (ba, .inl (ca 0, 1020, .inl (knB g B n)))] := hD
              refine lv_aload_n hx hb d_M_splice_181 rfl (lv_at hl 3 rfl) ?_
              refine f_get S cls_M hK hP 0 rfl 0 (by decide) fl_M_s rfl rfl d_M_splice_182 ?_
              refine lv_iconst (v := 5) hx hb d_M_splice_185 (by decide) ?_
              refine lv_dup2_11 hx hb d_M_splice_186 rfl rfl ?_
              refine A_ild S hK hP 1 0 (f := g4) rfl rfl (r := 5) (by omega) (by decide) rfl d_M_splice_187 ?_
              refine lv_iload_n hx hb d_M_splice_188 rfl (lv_at hl 2 rfl) ?_
              refine lv_iadd hx hb d_M_splice_189 ?_
              refine A_ist S hK hP hD hS 1 0 (f := g4) rfl rfl (r := 5) (by omega) (by decide) rfl d_M_splice_190 (fun H locs hP hD hS => ?_)
              obtain ⟨g5, hg5⟩ : ∃ z : Nat → Int32, z = upd g4 5 ((g4 5) + (y + 1)) := ⟨_, rfl⟩
              rw [← hg5] at hP hD
              have hP : va_P D classes [(o, .inr (4, (.ref sa :: .ref ba :: .int (nI (knn n)) :: fs))), (sa, .inl (ca 0, 170, .inl g5)), (ba, .inl (ca 0, 1020, .inl (knB g B n)))] H := hP
              have hD : va_D A [(o, .inr (4, (.ref sa :: .ref ba :: .int (nI (knn n)) :: fs))), (sa, .inl (ca 0, 170, .inl g5)), (ba, .inl (ca 0, 1020, .inl (knB g B n)))] := hD
              refine lv_aload_n hx hb d_M_splice_191 rfl (lv_at hl 3 rfl) ?_
              refine f_get S cls_M hK hP 0 rfl 0 (by decide) fl_M_s rfl rfl d_M_splice_192 ?_
              refine lv_iconst (v := 3) hx hb d_M_splice_195 (by decide) ?_
              refine A_ild S hK hP 1 0 (f := g5) rfl rfl (r := 3) (by omega) (by decide) rfl d_M_splice_196 ?_
              refine lv_iload_n hx hb d_M_splice_197 rfl (lv_at hl 4 rfl) ?_
              refine lv_isub hx hb d_M_splice_198 ?_
              refine lv_istore (lv' := [(6, .int ((g5 3) - x)), (5, .int (nI (10 + 4 * ((k / 20) * 20 + (k % 20)) + 0))), (4, .int (nI k)), (3, .int (y + 1)), (0, .ref o), (1, .int x), (2, .int y)]) hx hb d_M_splice_199 hl (by decide) rfl (fun ls hl => ?_)
              refine lv_aload_n hx hb d_M_splice_201 rfl (lv_at hl 4 rfl) ?_
              refine f_get S cls_M hK hP 0 rfl 0 (by decide) fl_M_s rfl rfl d_M_splice_202 ?_
              refine lv_iconst (v := 3) hx hb d_M_splice_205 (by decide) ?_
              refine lv_dup2_11 hx hb d_M_splice_206 rfl rfl ?_
              refine A_ild S hK hP 1 0 (f := g5) rfl rfl (r := 3) (by omega) (by decide) rfl d_M_splice_207 ?_
              refine lv_iload hx hb d_M_splice_208 (lv_at hl 0 rfl) ?_
              refine lv_if_gt (tgt := 217) hx hb d_M_splice_210 (by decide) (fun c_210 => ?_) (fun c_210 => ?_)
              · refine lv_iload hx hb d_M_splice_217 (lv_at hl 0 rfl) ?_
                refine lv_iload_n hx hb d_M_splice_219 rfl (lv_at hl 3 rfl) ?_
                refine lv_icmp_ge (tgt := 228) hx hb d_M_splice_220 (by decide) (fun c_220 => ?_) (fun c_220 => ?_)
                · refine lv_iload_n hx hb d_M_splice_228 rfl (lv_at hl 3 rfl) ?_
                  refine lv_tope (z := m_ah ((g5 3) - x) (y + 1)) (by simp only [m_ah, c_210, c_220, ↓reduceIte]) ?_
                  refine lv_isub hx hb d_M_splice_229 ?_
                  refine A_ist S hK hP hD hS 1 0 (f := g5) rfl rfl (r := 3) (by omega) (by decide) rfl d_M_splice_230 (fun H locs hP hD hS => ?_)
                  obtain ⟨g6, hg6⟩ : ∃ z : Nat → Int32, z = upd g5 3 ((g5 3) - (m_ah ((g5 3) - x) (y + 1))) := ⟨_, rfl⟩
                  rw [← hg6] at hP hD
                  have hP : va_P D classes [(o, .inr (4, (.ref sa :: .ref ba :: .int (nI (knn n)) :: fs))), (sa, .inl (ca 0, 170, .inl g6)), (ba, .inl (ca 0, 1020, .inl (knB g B n)))] H := hP
                  have hD : va_D A [(o, .inr (4, (.ref sa :: .ref ba :: .int (nI (knn n)) :: fs))), (sa, .inl (ca 0, 170, .inl g6)), (ba, .inl (ca 0, 1020, .inl (knB g B n)))] := hD
                  refine lv_aload_n hx hb d_M_splice_231 rfl (lv_at hl 4 rfl) ?_
                  refine f_get S cls_M hK hP 0 rfl 0 (by decide) fl_M_s rfl rfl d_M_splice_232 ?_
                  refine lv_iconst (v := 0) hx hb d_M_splice_235 (by decide) ?_
                  refine A_ild S hK hP 1 0 (f := g6) rfl rfl (r := 0) (by omega) (by decide) rfl d_M_splice_236 ?_
                  exact hret _ _ _ _ _ _ d_M_splice_237 rfl (by subst hg1 hg2 hg3 hg4 hg5 hg6; first | (simp only [m_spl, c_13, c_23, ← hv, c_47, c_55, hck, c_111, c_125, ↓reduceIte]; done) | (simp only [m_spl, c_13, c_23, ← hv, c_47, c_55, hck, c_111, c_125, ↓reduceIte]; rfl) | rfl) (by subst hg1 hg2 hg3 hg4 hg5 hg6; first | (simp only [m_spl, c_13, c_23, ← hv, c_47, c_55, hck, c_111, c_125, ↓reduceIte]; done) | (simp only [m_spl, c_13, c_23, ← hv, c_47, c_55, hck, c_111, c_125, ↓reduceIte]; rfl) | rfl) hP hD hS
                · refine lv_iload hx hb d_M_splice_223 (lv_at hl 0 rfl) ?_
                  refine lv_goto (tgt := 229) hx hb d_M_splice_225 (by decide) ?_
                  refine lv_tope (z := m_ah ((g5 3) - x) (y + 1)) (by simp only [m_ah, c_210, c_220, ↓reduceIte]) ?_
                  refine lv_isub hx hb d_M_splice_229 ?_
                  refine A_ist S hK hP hD hS 1 0 (f := g5) rfl rfl (r := 3) (by omega) (by decide) rfl d_M_splice_230 (fun H locs hP hD hS => ?_)
                  obtain ⟨g7, hg7⟩ : ∃ z : Nat → Int32, z = upd g5 3 ((g5 3) - (m_ah ((g5 3) - x) (y + 1))) := ⟨_, rfl⟩
                  rw [← hg7] at hP hD
                  have hP : va_P D classes [(o, .inr (4, (.ref sa :: .ref ba :: .int (nI (knn n)) :: fs))), (sa, .inl (ca 0, 170, .inl g7)), (ba, .inl (ca 0, 1020, .inl (knB g B n)))] H := hP
                  have hD : va_D A [(o, .inr (4, (.ref sa :: .ref ba :: .int (nI (knn n)) :: fs))), (sa, .inl (ca 0, 170, .inl g7)), (ba, .inl (ca 0, 1020, .inl (knB g B n)))] := hD
                  refine lv_aload_n hx hb d_M_splice_231 rfl (lv_at hl 4 rfl) ?_
                  refine f_get S cls_M hK hP 0 rfl 0 (by decide) fl_M_s rfl rfl d_M_splice_232 ?_
                  refine lv_iconst (v := 0) hx hb d_M_splice_235 (by decide) ?_
                  refine A_ild S hK hP 1 0 (f := g7) rfl rfl (r := 0) (by omega) (by decide) rfl d_M_splice_236 ?_
                  exact hret _ _ _ _ _ _ d_M_splice_237 rfl (by subst hg1 hg2 hg3 hg4 hg5 hg7; first | (simp only [m_spl, c_13, c_23, ← hv, c_47, c_55, hck, c_111, c_125, ↓reduceIte]; done) | (simp only [m_spl, c_13, c_23, ← hv, c_47, c_55, hck, c_111, c_125, ↓reduceIte]; rfl) | rfl) (by subst hg1 hg2 hg3 hg4 hg5 hg7; first | (simp only [m_spl, c_13, c_23, ← hv, c_47, c_55, hck, c_111, c_125, ↓reduceIte]; done) | (simp only [m_spl, c_13, c_23, ← hv, c_47, c_55, hck, c_111, c_125, ↓reduceIte]; rfl) | rfl) hP hD hS
              · refine lv_iconst (v := 0) hx hb d_M_splice_213 (by decide) ?_
                refine lv_goto (tgt := 229) hx hb d_M_splice_214 (by decide) ?_
                refine lv_tope (z := m_ah ((g5 3) - x) (y + 1)) (by simp only [m_ah, c_210, ↓reduceIte]) ?_
                refine lv_isub hx hb d_M_splice_229 ?_
                refine A_ist S hK hP hD hS 1 0 (f := g5) rfl rfl (r := 3) (by omega) (by decide) rfl d_M_splice_230 (fun H locs hP hD hS => ?_)
                obtain ⟨g8, hg8⟩ : ∃ z : Nat → Int32, z = upd g5 3 ((g5 3) - (m_ah ((g5 3) - x) (y + 1))) := ⟨_, rfl⟩
                rw [← hg8] at hP hD
                have hP : va_P D classes [(o, .inr (4, (.ref sa :: .ref ba :: .int (nI (knn n)) :: fs))), (sa, .inl (ca 0, 170, .inl g8)), (ba, .inl (ca 0, 1020, .inl (knB g B n)))] H := hP
                have hD : va_D A [(o, .inr (4, (.ref sa :: .ref ba :: .int (nI (knn n)) :: fs))), (sa, .inl (ca 0, 170, .inl g8)), (ba, .inl (ca 0, 1020, .inl (knB g B n)))] := hD
                refine lv_aload_n hx hb d_M_splice_231 rfl (lv_at hl 4 rfl) ?_
                refine f_get S cls_M hK hP 0 rfl 0 (by decide) fl_M_s rfl rfl d_M_splice_232 ?_
                refine lv_iconst (v := 0) hx hb d_M_splice_235 (by decide) ?_
                refine A_ild S hK hP 1 0 (f := g8) rfl rfl (r := 0) (by omega) (by decide) rfl d_M_splice_236 ?_
                exact hret _ _ _ _ _ _ d_M_splice_237 rfl (by subst hg1 hg2 hg3 hg4 hg5 hg8; first | (simp only [m_spl, c_13, c_23, ← hv, c_47, c_55, hck, c_111, c_125, ↓reduceIte]; done) | (simp only [m_spl, c_13, c_23, ← hv, c_47, c_55, hck, c_111, c_125, ↓reduceIte]; rfl) | rfl) (by subst hg1 hg2 hg3 hg4 hg5 hg8; first | (simp only [m_spl, c_13, c_23, ← hv, c_47, c_55, hck, c_111, c_125, ↓reduceIte]; done) | (simp only [m_spl, c_13, c_23, ← hv, c_47, c_55, hck, c_111, c_125, ↓reduceIte]; rfl) | rfl) hP hD hS
            · refine lv_bipush (v := (-4)) hx hb d_M_splice_128 (by decide) ?_
              exact hret _ _ _ _ _ _ d_M_splice_130 rfl (by first | (simp only [m_spl, c_13, c_23, ← hv, c_47, c_55, hck, c_111, c_125, ↓reduceIte]; done) | (simp only [m_spl, c_13, c_23, ← hv, c_47, c_55, hck, c_111, c_125, ↓reduceIte]; rfl) | rfl) (by first | (simp only [m_spl, c_13, c_23, ← hv, c_47, c_55, hck, c_111, c_125, ↓reduceIte]; done) | (simp only [m_spl, c_13, c_23, ← hv, c_47, c_55, hck, c_111, c_125, ↓reduceIte]; rfl) | rfl) hP hD hS
          · refine lv_bipush (v := (-5)) hx hb d_M_splice_114 (by decide) ?_
            exact hret _ _ _ _ _ _ d_M_splice_116 rfl (by first | (simp only [m_spl, c_13, c_23, ← hv, c_47, c_55, hck, c_111, ↓reduceIte]; done) | (simp only [m_spl, c_13, c_23, ← hv, c_47, c_55, hck, c_111, ↓reduceIte]; rfl) | rfl) (by first | (simp only [m_spl, c_13, c_23, ← hv, c_47, c_55, hck, c_111, ↓reduceIte]; done) | (simp only [m_spl, c_13, c_23, ← hv, c_47, c_55, hck, c_111, ↓reduceIte]; rfl) | rfl) hP hD hS
        · refine lv_iconst (v := 0) hx hb d_M_splice_58 (by decide) ?_
          refine lv_goto (tgt := 76) hx hb d_M_splice_59 (by decide) ?_
          refine lv_istore (lv' := [(5, .int 0), (4, .int v), (3, .int (y + 1)), (0, .ref o), (1, .int x), (2, .int y)]) hx hb d_M_splice_76 hl (by decide) rfl (fun ls hl => ?_)
          refine lv_iload hx hb d_M_splice_78 (lv_at hl 1 rfl) ?_
          refine lv_if_ge (tgt := 101) hx hb d_M_splice_80 (by decide) (fun q => absurd q (c_55)) (fun _ => ?_)
          refine lv_aload_n hx hb d_M_splice_83 rfl (lv_at hl 3 rfl) ?_
          refine RO.callV S (c_M_gap l D ca o sa (.ref ba :: .int (nI n) :: fs) g  hB) k_M_70 hP hK [0, 1] rfl 0 (ci := 4) (fs := (.ref sa :: .ref ba :: .int (nI n) :: fs)) rfl rfl rfl rfl hl.1 ⟨Nat.le_of_ble_eq_true rfl, Nat.le_of_ble_eq_true rfl⟩ ⟨Nat.zero_le _, Nat.zero_le _⟩ (Nat.le_of_ble_eq_true rfl) d_M_splice_84 ?_
          refine lv_iload_n hx hb d_M_splice_87 rfl (lv_at hl 2 rfl) ?_
          refine lv_isub hx hb d_M_splice_88 ?_
          refine lv_aload_n hx hb d_M_splice_89 rfl (lv_at hl 3 rfl) ?_
          refine f_get S cls_M hK hP 0 rfl 0 (by decide) fl_M_s rfl rfl d_M_splice_90 ?_
          refine lv_iconst (v := 1) hx hb d_M_splice_93 (by decide) ?_
          refine A_ild S hK hP 1 0 (f := g) rfl rfl (r := 1) (by omega) (by decide) rfl d_M_splice_94 ?_
          refine lv_icmp_ge (tgt := 117) hx hb d_M_splice_95 (by decide) (fun c_95 => ?_) (fun c_95 => ?_)
          · refine lv_aload_n hx hb d_M_splice_117 rfl (lv_at hl 3 rfl) ?_
            refine f_get S cls_M hK hP 0 rfl 0 (by decide) fl_M_s rfl rfl d_M_splice_118 ?_
            refine lv_iconst (v := 4) hx hb d_M_splice_121 (by decide) ?_
            refine A_ild S hK hP 1 0 (f := g) rfl rfl (r := 4) (by omega) (by decide) rfl d_M_splice_122 ?_
            refine lv_bipush (v := 9) hx hb d_M_splice_123 (by decide) ?_
            refine lv_icmp_ne (tgt := 131) hx hb d_M_splice_125 (by decide) (fun c_125 => ?_) (fun c_125 => ?_)
            · refine lv_aload_n hx hb d_M_splice_131 rfl (lv_at hl 3 rfl) ?_
              refine MV.callV (wr := []) S (c_M_know l D ca  o sa ba (fs) g B n (by omega)) k_M_82 hP hD hS hA hK [0, 1, 2] [] rfl rfl (by decide) (by decide) (by decide) 0 (ci := 4) (fs := (.ref sa :: .ref ba :: .int (nI n) :: fs)) rfl rfl rfl rfl hl.1 ⟨Nat.le_of_ble_eq_true rfl, Nat.le_of_ble_eq_true rfl⟩ ⟨Nat.zero_le _, Nat.zero_le _⟩ (Nat.le_of_ble_eq_true rfl) d_M_splice_132 (fun H locs hP hD hS => ?_)
              have hP : va_P D classes [(o, .inr (4, (.ref sa :: .ref ba :: .int (nI (knn n)) :: fs))), (sa, .inl (ca 0, 170, .inl g)), (ba, .inl (ca 0, 1020, .inl (knB g B n)))] H := hP
              have hD : va_D A [(o, .inr (4, (.ref sa :: .ref ba :: .int (nI (knn n)) :: fs))), (sa, .inl (ca 0, 170, .inl g)), (ba, .inl (ca 0, 1020, .inl (knB g B n)))] := hD
              refine lv_iload hx hb d_M_splice_135 (lv_at hl 1 rfl) ?_
              refine lv_if_lt (tgt := 161) hx hb d_M_splice_137 (by decide) (fun _ => ?_) (fun q => absurd (lt_of_nle c_55) q)
              refine lv_aload_n hx hb d_M_splice_161 rfl (lv_at hl 3 rfl) ?_
              refine f_get S cls_M hK hP 0 rfl 0 (by decide) fl_M_s rfl rfl d_M_splice_162 ?_
              refine lv_iconst (v := 0) hx hb d_M_splice_165 (by decide) ?_
              refine lv_dup2_11 hx hb d_M_splice_166 rfl rfl ?_
              refine A_ild S hK hP 1 0 (f := g) rfl rfl (r := 0) (by omega) (by decide) rfl d_M_splice_167 ?_
              refine lv_iload_n hx hb d_M_splice_168 rfl (lv_at hl 2 rfl) ?_
              refine lv_isub hx hb d_M_splice_169 ?_
              refine A_ist S hK hP hD hS 1 0 (f := g) rfl rfl (r := 0) (by omega) (by decide) rfl d_M_splice_170 (fun H locs hP hD hS => ?_)
              obtain ⟨g9, hg9⟩ : ∃ z : Nat → Int32, z = upd g 0 ((g 0) - (y + 1)) := ⟨_, rfl⟩
              rw [← hg9] at hP hD
              have hP : va_P D classes [(o, .inr (4, (.ref sa :: .ref ba :: .int (nI (knn n)) :: fs))), (sa, .inl (ca 0, 170, .inl g9)), (ba, .inl (ca 0, 1020, .inl (knB g B n)))] H := hP
              have hD : va_D A [(o, .inr (4, (.ref sa :: .ref ba :: .int (nI (knn n)) :: fs))), (sa, .inl (ca 0, 170, .inl g9)), (ba, .inl (ca 0, 1020, .inl (knB g B n)))] := hD
              refine lv_aload_n hx hb d_M_splice_171 rfl (lv_at hl 3 rfl) ?_
              refine f_get S cls_M hK hP 0 rfl 0 (by decide) fl_M_s rfl rfl d_M_splice_172 ?_
              refine lv_iconst (v := 4) hx hb d_M_splice_175 (by decide) ?_
              refine lv_dup2_11 hx hb d_M_splice_176 rfl rfl ?_
              refine A_ild S hK hP 1 0 (f := g9) rfl rfl (r := 4) (by omega) (by decide) rfl d_M_splice_177 ?_
              refine lv_iconst (v := 1) hx hb d_M_splice_178 (by decide) ?_
              refine lv_iadd hx hb d_M_splice_179 ?_
              refine A_ist S hK hP hD hS 1 0 (f := g9) rfl rfl (r := 4) (by omega) (by decide) rfl d_M_splice_180 (fun H locs hP hD hS => ?_)
              obtain ⟨g10, hg10⟩ : ∃ z : Nat → Int32, z = upd g9 4 ((g9 4) + 1) := ⟨_, rfl⟩
              rw [← hg10] at hP hD
              have hP : va_P D classes [(o, .inr (4, (.ref sa :: .ref ba :: .int (nI (knn n)) :: fs))), (sa, .inl (ca 0, 170, .inl g10)), (ba, .inl (ca 0, 1020, .inl (knB g B n)))] H := hP
              have hD : va_D A [(o, .inr (4, (.ref sa :: .ref ba :: .int (nI (knn n)) :: fs))), (sa, .inl (ca 0, 170, .inl g10)), (ba, .inl (ca 0, 1020, .inl (knB g B n)))] := hD
              refine lv_aload_n hx hb d_M_splice_181 rfl (lv_at hl 3 rfl) ?_
              refine f_get S cls_M hK hP 0 rfl 0 (by decide) fl_M_s rfl rfl d_M_splice_182 ?_
              refine lv_iconst (v := 5) hx hb d_M_splice_185 (by decide) ?_
              refine lv_dup2_11 hx hb d_M_splice_186 rfl rfl ?_
              refine A_ild S hK hP 1 0 (f := g10) rfl rfl (r := 5) (by omega) (by decide) rfl d_M_splice_187 ?_
              refine lv_iload_n hx hb d_M_splice_188 rfl (lv_at hl 2 rfl) ?_
              refine lv_iadd hx hb d_M_splice_189 ?_
              refine A_ist S hK hP hD hS 1 0 (f := g10) rfl rfl (r := 5) (by omega) (by decide) rfl d_M_splice_190 (fun H locs hP hD hS => ?_)
              obtain ⟨g11, hg11⟩ : ∃ z : Nat → Int32, z = upd g10 5 ((g10 5) + (y + 1)) := ⟨_, rfl⟩
              rw [← hg11] at hP hD
              have hP : va_P D classes [(o, .inr (4, (.ref sa :: .ref ba :: .int (nI (knn n)) :: fs))), (sa, .inl (ca 0, 170, .inl g11)), (ba, .inl (ca 0, 1020, .inl (knB g B n)))] H := hP
              have hD : va_D A [(o, .inr (4, (.ref sa :: .ref ba :: .int (nI (knn n)) :: fs))), (sa, .inl (ca 0, 170, .inl g11)), (ba, .inl (ca 0, 1020, .inl (knB g B n)))] := hD
              refine lv_aload_n hx hb d_M_splice_191 rfl (lv_at hl 3 rfl) ?_
              refine f_get S cls_M hK hP 0 rfl 0 (by decide) fl_M_s rfl rfl d_M_splice_192 ?_
              refine lv_iconst (v := 3) hx hb d_M_splice_195 (by decide) ?_
              refine A_ild S hK hP 1 0 (f := g11) rfl rfl (r := 3) (by omega) (by decide) rfl d_M_splice_196 ?_
              refine lv_iload_n hx hb d_M_splice_197 rfl (lv_at hl 4 rfl) ?_
              refine lv_isub hx hb d_M_splice_198 ?_
              refine lv_istore (lv' := [(6, .int ((g11 3) - x)), (5, .int 0), (4, .int v), (3, .int (y + 1)), (0, .ref o), (1, .int x), (2, .int y)]) hx hb d_M_splice_199 hl (by decide) rfl (fun ls hl => ?_)
              refine lv_aload_n hx hb d_M_splice_201 rfl (lv_at hl 4 rfl) ?_
              refine f_get S cls_M hK hP 0 rfl 0 (by decide) fl_M_s rfl rfl d_M_splice_202 ?_
              refine lv_iconst (v := 3) hx hb d_M_splice_205 (by decide) ?_
              refine lv_dup2_11 hx hb d_M_splice_206 rfl rfl ?_
              refine A_ild S hK hP 1 0 (f := g11) rfl rfl (r := 3) (by omega) (by decide) rfl d_M_splice_207 ?_
              refine lv_iload hx hb d_M_splice_208 (lv_at hl 0 rfl) ?_
              refine lv_if_gt (tgt := 217) hx hb d_M_splice_210 (by decide) (fun c_210 => ?_) (fun c_210 => ?_)
              · refine lv_iload hx hb d_M_splice_217 (lv_at hl 0 rfl) ?_
                refine lv_iload_n hx hb d_M_splice_219 rfl (lv_at hl 3 rfl) ?_
                refine lv_icmp_ge (tgt := 228) hx hb d_M_splice_220 (by decide) (fun c_220 => ?_) (fun c_220 => ?_)
                · refine lv_iload_n hx hb d_M_splice_228 rfl (lv_at hl 3 rfl) ?_
                  refine lv_tope (z := m_ah ((g11 3) - x) (y + 1)) (by simp only [m_ah, c_210, c_220, ↓reduceIte]) ?_
                  refine lv_isub hx hb d_M_splice_229 ?_
                  refine A_ist S hK hP hD hS 1 0 (f := g11) rfl rfl (r := 3) (by omega) (by decide) rfl d_M_splice_230 (fun H locs hP hD hS => ?_)
                  obtain ⟨g12, hg12⟩ : ∃ z : Nat → Int32, z = upd g11 3 ((g11 3) - (m_ah ((g11 3) - x) (y + 1))) := ⟨_, rfl⟩
                  rw [← hg12] at hP hD
                  have hP : va_P D classes [(o, .inr (4, (.ref sa :: .ref ba :: .int (nI (knn n)) :: fs))), (sa, .inl (ca 0, 170, .inl g12)), (ba, .inl (ca 0, 1020, .inl (knB g B n)))] H := hP
                  have hD : va_D A [(o, .inr (4, (.ref sa :: .ref ba :: .int (nI (knn n)) :: fs))), (sa, .inl (ca 0, 170, .inl g12)), (ba, .inl (ca 0, 1020, .inl (knB g B n)))] := hD
                  refine lv_aload_n hx hb d_M_splice_231 rfl (lv_at hl 4 rfl) ?_
                  refine f_get S cls_M hK hP 0 rfl 0 (by decide) fl_M_s rfl rfl d_M_splice_232 ?_
                  refine lv_iconst (v := 0) hx hb d_M_splice_235 (by decide) ?_
                  refine A_ild S hK hP 1 0 (f := g12) rfl rfl (r := 0) (by omega) (by decide) rfl d_M_splice_236 ?_
                  exact hret _ _ _ _ _ _ d_M_splice_237 rfl (by subst hg9 hg10 hg11 hg12; first | (simp only [m_spl, c_13, c_23, ← hv, c_47, c_55, c_95, c_125, ↓reduceIte]; done) | (simp only [m_spl, c_13, c_23, ← hv, c_47, c_55, c_95, c_125, ↓reduceIte]; rfl) | rfl) (by subst hg9 hg10 hg11 hg12; first | (simp only [m_spl, c_13, c_23, ← hv, c_47, c_55, c_95, c_125, ↓reduceIte]; done) | (simp only [m_spl, c_13, c_23, ← hv, c_47, c_55, c_95, c_125, ↓reduceIte]; rfl) | rfl) hP hD hS
                · refine lv_iload hx hb d_M_splice_223 (lv_at hl 0 rfl) ?_
                  refine lv_goto (tgt := 229) hx hb d_M_splice_225 (by decide) ?_
                  refine lv_tope (z := m_ah ((g11 3) - x) (y + 1)) (by simp only [m_ah, c_210, c_220, ↓reduceIte]) ?_
                  refine lv_isub hx hb d_M_splice_229 ?_
                  refine A_ist S hK hP hD hS 1 0 (f := g11) rfl rfl (r := 3) (by omega) (by decide) rfl d_M_splice_230 (fun H locs hP hD hS => ?_)
                  obtain ⟨g13, hg13⟩ : ∃ z : Nat → Int32, z = upd g11 3 ((g11 3) - (m_ah ((g11 3) - x) (y + 1))) := ⟨_, rfl⟩
                  rw [← hg13] at hP hD
                  have hP : va_P D classes [(o, .inr (4, (.ref sa :: .ref ba :: .int (nI (knn n)) :: fs))), (sa, .inl (ca 0, 170, .inl g13)), (ba, .inl (ca 0, 1020, .inl (knB g B n)))] H := hP
                  have hD : va_D A [(o, .inr (4, (.ref sa :: .ref ba :: .int (nI (knn n)) :: fs))), (sa, .inl (ca 0, 170, .inl g13)), (ba, .inl (ca 0, 1020, .inl (knB g B n)))] := hD
                  refine lv_aload_n hx hb d_M_splice_231 rfl (lv_at hl 4 rfl) ?_
                  refine f_get S cls_M hK hP 0 rfl 0 (by decide) fl_M_s rfl rfl d_M_splice_232 ?_
                  refine lv_iconst (v := 0) hx hb d_M_splice_235 (by decide) ?_
                  refine A_ild S hK hP 1 0 (f := g13) rfl rfl (r := 0) (by omega) (by decide) rfl d_M_splice_236 ?_
                  exact hret _ _ _ _ _ _ d_M_splice_237 rfl (by subst hg9 hg10 hg11 hg13; first | (simp only [m_spl, c_13, c_23, ← hv, c_47, c_55, c_95, c_125, ↓reduceIte]; done) | (simp only [m_spl, c_13, c_23, ← hv, c_47, c_55, c_95, c_125, ↓reduceIte]; rfl) | rfl) (by subst hg9 hg10 hg11 hg13; first | (simp only [m_spl, c_13, c_23, ← hv, c_47, c_55, c_95, c_125, ↓reduceIte]; done) | (simp only [m_spl, c_13, c_23, ← hv, c_47, c_55, c_95, c_125, ↓reduceIte]; rfl) | rfl) hP hD hS
              · refine lv_iconst (v := 0) hx hb d_M_splice_213 (by decide) ?_
                refine lv_goto (tgt := 229) hx hb d_M_splice_214 (by decide) ?_
                refine lv_tope (z := m_ah ((g11 3) - x) (y + 1)) (by simp only [m_ah, c_210, ↓reduceIte]) ?_
                refine lv_isub hx hb d_M_splice_229 ?_
                refine A_ist S hK hP hD hS 1 0 (f := g11) rfl rfl (r := 3) (by omega) (by decide) rfl d_M_splice_230 (fun H locs hP hD hS => ?_)
                obtain ⟨g14, hg14⟩ : ∃ z : Nat → Int32, z = upd g11 3 ((g11 3) - (m_ah ((g11 3) - x) (y + 1))) := ⟨_, rfl⟩
                rw [← hg14] at hP hD
                have hP : va_P D classes [(o, .inr (4, (.ref sa :: .ref ba :: .int (nI (knn n)) :: fs))), (sa, .inl (ca 0, 170, .inl g14)), (ba, .inl (ca 0, 1020, .inl (knB g B n)))] H := hP
                have hD : va_D A [(o, .inr (4, (.ref sa :: .ref ba :: .int (nI (knn n)) :: fs))), (sa, .inl (ca 0, 170, .inl g14)), (ba, .inl (ca 0, 1020, .inl (knB g B n)))] := hD
                refine lv_aload_n hx hb d_M_splice_231 rfl (lv_at hl 4 rfl) ?_
                refine f_get S cls_M hK hP 0 rfl 0 (by decide) fl_M_s rfl rfl d_M_splice_232 ?_
                refine lv_iconst (v := 0) hx hb d_M_splice_235 (by decide) ?_
                refine A_ild S hK hP 1 0 (f := g14) rfl rfl (r := 0) (by omega) (by decide) rfl d_M_splice_236 ?_
                exact hret _ _ _ _ _ _ d_M_splice_237 rfl (by subst hg9 hg10 hg11 hg14; first | (simp only [m_spl, c_13, c_23, ← hv, c_47, c_55, c_95, c_125, ↓reduceIte]; done) | (simp only [m_spl, c_13, c_23, ← hv, c_47, c_55, c_95, c_125, ↓reduceIte]; rfl) | rfl) (by subst hg9 hg10 hg11 hg14; first | (simp only [m_spl, c_13, c_23, ← hv, c_47, c_55, c_95, c_125, ↓reduceIte]; done) | (simp only [m_spl, c_13, c_23, ← hv, c_47, c_55, c_95, c_125, ↓reduceIte]; rfl) | rfl) hP hD hS
            · refine lv_bipush (v := (-4)) hx hb d_M_splice_128 (by decide) ?_
              exact hret _ _ _ _ _ _ d_M_splice_130 rfl (by first | (simp only [m_spl, c_13, c_23, ← hv, c_47, c_55, c_95, c_125, ↓reduceIte]; done) | (simp only [m_spl, c_13, c_23, ← hv, c_47, c_55, c_95, c_125, ↓reduceIte]; rfl) | rfl) (by first | (simp only [m_spl, c_13, c_23, ← hv, c_47, c_55, c_95, c_125, ↓reduceIte]; done) | (simp only [m_spl, c_13, c_23, ← hv, c_47, c_55, c_95, c_125, ↓reduceIte]; rfl) | rfl) hP hD hS
          · refine lv_goto (tgt := 114) hx hb d_M_splice_98 (by decide) ?_
            refine lv_bipush (v := (-5)) hx hb d_M_splice_114 (by decide) ?_
            exact hret _ _ _ _ _ _ d_M_splice_116 rfl (by first | (simp only [m_spl, c_13, c_23, ← hv, c_47, c_55, c_95, ↓reduceIte]; done) | (simp only [m_spl, c_13, c_23, ← hv, c_47, c_55, c_95, ↓reduceIte]; rfl) | rfl) (by first | (simp only [m_spl, c_13, c_23, ← hv, c_47, c_55, c_95, ↓reduceIte]; done) | (simp only [m_spl, c_13, c_23, ← hv, c_47, c_55, c_95, ↓reduceIte]; rfl) | rfl) hP hD hS
      · refine lv_bipush (v := (-5)) hx hb d_M_splice_50 (by decide) ?_
        exact hret _ _ _ _ _ _ d_M_splice_52 rfl (by first | (simp only [m_spl, c_13, c_23, ← hv, c_47, ↓reduceIte]; done) | (simp only [m_spl, c_13, c_23, ← hv, c_47, ↓reduceIte]; rfl) | rfl) (by first | (simp only [m_spl, c_13, c_23, ← hv, c_47, ↓reduceIte]; done) | (simp only [m_spl, c_13, c_23, ← hv, c_47, ↓reduceIte]; rfl) | rfl) hP hD hS
    · refine lv_bipush (v := (-2)) hx hb d_M_splice_26 (by decide) ?_
      exact hret _ _ _ _ _ _ d_M_splice_28 rfl (by first | (simp only [m_spl, c_13, c_23, ↓reduceIte]; done) | (simp only [m_spl, c_13, c_23, ↓reduceIte]; rfl) | rfl) (by first | (simp only [m_spl, c_13, c_23, ↓reduceIte]; done) | (simp only [m_spl, c_13, c_23, ↓reduceIte]; rfl) | rfl) hP hD hS
def m_und (g B : Nat → Int32) (n : Nat) : Int32 × (Nat → Int32) × Nat := if n = 0 then (-5, g, 0) else (nI (n - 1), cb g B (n - 1) 170, n - 1)
set_option maxHeartbeats 4000000 in
set_option maxRecDepth 100000 in
theorem c_M_undo (l : Launch) (D : va_G) (ca : Nat → ClassId) (o sa ba : Nat) (fs : List Value) (g B : Nat → Int32) (n : Nat) (hn6 : n ≤ 6) : MI l y_M_undo b_M_undo 2 (some .int) 0 0 D ca [.ref o] [(o, .inr (4, (.ref sa :: .ref ba :: .int (nI n) :: fs))), (sa, .inl (ca 0, 170, .inl g)), (ba, .inl (ca 0, 1020, .inl B))] ((m_und g B n).1) [(o, .inr (4, (.ref sa :: .ref ba :: .int (nI ((m_und g B n).2.2)) :: fs))), (sa, .inl (ca 0, 170, .inl ((m_und g B n).2.1))), (ba, .inl (ca 0, 1020, .inl B))] := by
  refine MI.mk (ty := .int) rfl rfl (Nat.le_of_ble_eq_true rfl) ?_
  intro p e s m args below meth c Q A S hA hP hD hK
  obtain ⟨hx, hb, hml, hown, hts⟩ := id S
  intro hret ls hl0 hS
  have hl : lv_has ls 2 [(0, .ref o)] := hl0
  refine lv_aload_n hx hb d_M_undo_0 rfl (lv_at hl 0 rfl) ?_
  refine f_get S cls_M hK hP 0 rfl 2 (by decide) fl_M_known rfl rfl d_M_undo_1 ?_
  refine lv_if_ne (tgt := 10) hx hb d_M_undo_4 (by decide) (fun c_4 => ?_) (fun c_4 => ?_)
  · have e_4 : ¬ n = 0 := n0I c_4
    refine lv_aload_n hx hb d_M_undo_10 rfl (lv_at hl 0 rfl) ?_
    refine lv_dup hx hb d_M_undo_11 rfl ?_
    refine f_get S cls_M hK hP 0 rfl 2 (by decide) fl_M_known rfl rfl d_M_undo_12 ?_
    refine lv_iconst (v := 1) hx hb d_M_undo_15 (by decide) ?_
    refine lv_isub hx hb d_M_undo_16 ?_
    refine lv_tope (z := nI (n - 1)) (pk_sub (a := n) (b := 1) (by omega)) ?_
    refine f_put S cls_M hK hP hD hS 0 rfl 2 (by decide) fl_M_known rfl rfl (rfl) (rfl) (Nat.le_of_ble_eq_true rfl) d_M_undo_17 (fun H locs hP hD hS => ?_)
    have hP : va_P D classes [(o, .inr (4, (.ref sa :: .ref ba :: .int (nI (n - 1)) :: fs))), (sa, .inl (ca 0, 170, .inl g)), (ba, .inl (ca 0, 1020, .inl B))] H := hP
    have hD : va_D A [(o, .inr (4, (.ref sa :: .ref ba :: .int (nI (n - 1)) :: fs))), (sa, .inl (ca 0, 170, .inl g)), (ba, .inl (ca 0, 1020, .inl B))] := hD
    refine lv_iconst (v := 0) hx hb d_M_undo_20 (by decide) ?_
    refine lv_istore_n (lv' := [(1, .int 0), (0, .ref o)]) hx hb d_M_undo_21 rfl hl (by decide) rfl (fun ls hl => ?_)
    suffices lp : ∀ (r k : Nat), 170 - k < r → k ≤ 170 → ∀ (H : Heap) (locs : List Loc), va_P D classes [(o, .inr (4, (.ref sa :: .ref ba :: .int (nI (n - 1)) :: fs))), (sa, .inl (ca 0, 170, .inl (cb g B (n - 1) k))), (ba, .inl (ca 0, 1020, .inl B))] H → va_D A [(o, .inr (4, (.ref sa :: .ref ba :: .int (nI (n - 1)) :: fs))), (sa, .inl (ca 0, 170, .inl (cb g B (n - 1) k))), (ba, .inl (ca 0, 1020, .inl B))] → va_S A s.heap H locs → ∀ ls : Array Slot, lv_has ls 2 [(1, .int (nI k)), (0, .ref o)] → W p l e (rm 0 0 0 0) s m args below meth c H locs 0 0 Q (F0 m 22 ls []) from lp (170 + 1) 0 (by omega) (by omega) _ _ (by rw [cb_0]; exact hP) (by rw [cb_0]; exact hD) hS _ (lv_sub hl [0, 1] rfl)
    intro r
    induction r with
    | zero => intro k hk; omega
    | succ r ih =>
      intro k hk hkn H locs hP hD hS ls hl
      refine lv_iload_n hx hb d_M_undo_22 rfl (lv_at hl 0 rfl) ?_
      refine lv_sipush (v := 170) hx hb d_M_undo_23 (by decide) ?_
      refine lv_icmp_ge (tgt := 56) hx hb d_M_undo_26 (by decide) (fun c_26 => ?_) (fun c_26 => ?_)
      · have e_k : 170 ≤ k := le_of_nI (by omega) (by omega) (show nI 170 ≤ nI k from c_26)
        obtain rfl : k = 170 := by omega
        refine lv_aload_n hx hb d_M_undo_56 rfl (lv_at hl 1 rfl) ?_
        refine f_get S cls_M hK hP 0 rfl 2 (by decide) fl_M_known rfl rfl d_M_undo_57 ?_
        exact hret _ _ _ _ _ _ d_M_undo_60 rfl (by first | (simp only [m_und, e_4, ↓reduceIte]; done) | (simp only [m_und, e_4, ↓reduceIte]; rfl) | rfl) (by first | (simp only [m_und, e_4, ↓reduceIte]; done) | (simp only [m_und, e_4, ↓reduceIte]; rfl) | rfl) hP hD hS
      · have e_k : k < 170 := nle_lt (by omega) (by omega) (show ¬ nI 170 ≤ nI k from c_26)
        refine lv_aload_n hx hb d_M_undo_29 rfl (lv_at hl 1 rfl) ?_
        refine f_get S cls_M hK hP 0 rfl 0 (by decide) fl_M_s rfl rfl d_M_undo_30 ?_
        refine lv_iload_n hx hb d_M_undo_33 rfl (lv_at hl 0 rfl) ?_
        refine lv_aload_n hx hb d_M_undo_34 rfl (lv_at hl 1 rfl) ?_
        refine f_get S cls_M hK hP 0 rfl 1 (by decide) fl_M_before rfl rfl d_M_undo_35 ?_
        refine lv_sipush (v := 170) hx hb d_M_undo_38 (by decide) ?_
        refine lv_aload_n hx hb d_M_undo_41 rfl (lv_at hl 1 rfl) ?_
        refine f_get S cls_M hK hP 0 rfl 2 (by decide) fl_M_known rfl rfl d_M_undo_42 ?_
        refine lv_imul hx hb d_M_undo_45 ?_
        refine lv_tope (z := nI (170 * (n - 1))) (pk_mul 170 (n - 1)) ?_
        refine lv_iload_n hx hb d_M_undo_46 rfl (lv_at hl 0 rfl) ?_
        refine lv_iadd hx hb d_M_undo_47 ?_
        refine lv_tope (z := nI ((170 * (n - 1)) + k)) (nI_add (170 * (n - 1)) k) ?_
        refine A_ild S hK hP 2 0 (f := B) rfl rfl (r := (170 * (n - 1)) + k) (by omega) (by decide) rfl d_M_undo_48 ?_
        refine A_ist S hK hP hD hS 1 0 (f := cb g B (n - 1) k) rfl rfl (r := k) (by omega) (by decide) rfl d_M_undo_49 (fun H locs hP hD hS => ?_)
        rw [show upd (cb g B (n - 1) k) k (B ((170 * (n - 1)) + k)) = cb g B (n - 1) (k + 1) from cb_s g B (n - 1) k] at hP hD
        have hP : va_P D classes [(o, .inr (4, (.ref sa :: .ref ba :: .int (nI (n - 1)) :: fs))), (sa, .inl (ca 0, 170, .inl (cb g B (n - 1) (k + 1)))), (ba, .inl (ca 0, 1020, .inl B))] H := hP
        have hD : va_D A [(o, .inr (4, (.ref sa :: .ref ba :: .int (nI (n - 1)) :: fs))), (sa, .inl (ca 0, 170, .inl (cb g B (n - 1) (k + 1)))), (ba, .inl (ca 0, 1020, .inl B))] := hD
        refine lv_iinc (v := nI (k + 1)) (lv' := [(1, .int (nI (k + 1))), (0, .ref o)]) hx hb d_M_undo_50 hl (k := 0) rfl (nI_1 k) (by decide) rfl (fun ls hl => ?_)
        refine lv_goto (tgt := 22) hx hb d_M_undo_53 (by decide) ?_
        exact ih (k + 1) (by omega) (by omega) _ _ hP hD hS _ (lv_sub hl [0, 1] rfl)
  · have e_4 : n = 0 := nI0 (by omega) c_4
    refine lv_bipush (v := (-5)) hx hb d_M_undo_7 (by decide) ?_
    exact hret _ _ _ _ _ _ d_M_undo_9 rfl (by first | (simp only [m_und, e_4, ↓reduceIte]; done) | (simp only [m_und, e_4, ↓reduceIte]; rfl) | rfl) (by first | (simp only [m_und, e_4, ↓reduceIte]; done) | (simp only [m_und, e_4, ↓reduceIte]; rfl) | rfl) hP hD hS
def m_sav (g SL SV : Nat → Int32) (x : Int32) : Int32 × (Nat → Int32) × (Nat → Int32) := if isf x = 0 then (-2, SL, SV) else (nI (bn g 0 + bn g 1), cp SL g x.toNatClampNeg 170, upd SV x.toNatClampNeg 1)
set_option maxHeartbeats 4000000 in
set_option maxRecDepth 100000 in
theorem c_M_save (l : Launch) (D : va_G) (ca : Nat → ClassId) (o sa ba sl sv : Nat) (fs : List Value) (g B SL SV : Nat → Int32) (n : Nat) (x : Int32) (hB : BN g) : MI l y_M_save b_M_save 3 (some .int) 1 22 D ca [.ref o, .int x] [(o, .inr (4, (.ref sa :: .ref ba :: .int (nI n) :: .ref sl :: .ref sv :: fs))), (sa, .inl (ca 0, 170, .inl g)), (ba, .inl (ca 0, 1020, .inl B)), (sl, .inl (ca 0, 340, .inl SL)), (sv, .inl (ca 1, 2, .inl SV))] ((m_sav g SL SV x).1) [(o, .inr (4, (.ref sa :: .ref ba :: .int (nI n) :: .ref sl :: .ref sv :: fs))), (sa, .inl (ca 0, 170, .inl g)), (ba, .inl (ca 0, 1020, .inl B)), (sl, .inl (ca 0, 340, .inl ((m_sav g SL SV x).2.1))), (sv, .inl (ca 1, 2, .inl ((m_sav g SL SV x).2.2)))] := by
  refine MI.mk (ty := .int) rfl rfl (Nat.le_of_ble_eq_true rfl) ?_
  intro p e s m args below meth c Q A S hA hP hD hK
  obtain ⟨hx, hb, hml, hown, hts⟩ := id S
  intro hret ls hl0 hS
  have hl : lv_has ls 3 [(0, .ref o), (1, .int x)] := hl0
  refine lv_iload_n hx hb d_M_save_0 rfl (lv_at hl 1 rfl) ?_
  refine lv_iconst (v := 0) hx hb d_M_save_1 (by decide) ?_
  refine lv_iconst (v := 1) hx hb d_M_save_2 (by decide) ?_
  refine RO.callS S (c_M_in l D ca  x 0 1 ) k_M_26 hK rfl rfl hl.1 ⟨Nat.le_of_ble_eq_true rfl, Nat.le_of_ble_eq_true rfl⟩ ⟨Nat.zero_le _, Nat.zero_le _⟩ (Nat.le_of_ble_eq_true rfl) d_M_save_3 ?_
  refine lv_tope (z := isf x) (inr_f x) ?_
  refine lv_if_ne (tgt := 12) hx hb d_M_save_6 (by decide) (fun c_6 => ?_) (fun c_6 => ?_)
  · obtain ⟨f, hf, rfl⟩ := isf_of c_6
    have hcl : (nI f).toNatClampNeg = f := nI_clamp (by omega)
    refine lv_iconst (v := 0) hx hb d_M_save_12 (by decide) ?_
    refine lv_istore_n (lv' := [(2, .int 0), (0, .ref o), (1, .int (nI f))]) hx hb d_M_save_13 rfl hl (by decide) rfl (fun ls hl => ?_)
    suffices lp : ∀ (r k : Nat), 170 - k < r → k ≤ 170 → ∀ (H : Heap) (locs : List Loc), va_P D classes [(o, .inr (4, (.ref sa :: .ref ba :: .int (nI n) :: .ref sl :: .ref sv :: fs))), (sa, .inl (ca 0, 170, .inl g)), (ba, .inl (ca 0, 1020, .inl B)), (sl, .inl (ca 0, 340, .inl (cp SL g f k))), (sv, .inl (ca 1, 2, .inl SV))] H → va_D A [(o, .inr (4, (.ref sa :: .ref ba :: .int (nI n) :: .ref sl :: .ref sv :: fs))), (sa, .inl (ca 0, 170, .inl g)), (ba, .inl (ca 0, 1020, .inl B)), (sl, .inl (ca 0, 340, .inl (cp SL g f k))), (sv, .inl (ca 1, 2, .inl SV))] → va_S A s.heap H locs → ∀ ls : Array Slot, lv_has ls 3 [(2, .int (nI k)), (0, .ref o), (1, .int (nI f))] → W p l e (rm 1 22 0 0) s m args below meth c H locs 0 0 Q (F0 m 14 ls []) from lp (170 + 1) 0 (by omega) (by omega) _ _ (by rw [cp_0]; exact hP) (by rw [cp_0]; exact hD) hS _ (lv_sub hl [0, 1, 2] rfl)
    intro r
    induction r with
    | zero => intro k hk; omega
    | succ r ih =>
      intro k hk hkn H locs hP hD hS ls hl
      refine lv_iload_n hx hb d_M_save_14 rfl (lv_at hl 0 rfl) ?_
      refine lv_sipush (v := 170) hx hb d_M_save_15 (by decide) ?_
      refine lv_icmp_ge (tgt := 45) hx hb d_M_save_18 (by decide) (fun c_18 => ?_) (fun c_18 => ?_)
      · have e_k : 170 ≤ k := le_of_nI (by omega) (by omega) (show nI 170 ≤ nI k from c_18)
        obtain rfl : k = 170 := by omega
        refine lv_aload_n hx hb d_M_save_45 rfl (lv_at hl 1 rfl) ?_
        refine f_get S cls_M hK hP 0 rfl 4 (by decide) fl_M_isSaved rfl rfl d_M_save_46 ?_
        refine lv_iload_n hx hb d_M_save_49 rfl (lv_at hl 2 rfl) ?_
        refine lv_iconst (v := 1) hx hb d_M_save_50 (by decide) ?_
        refine A_zst S hK hP hD hS 4 1 (f := SV) rfl rfl (r := f) (by omega) (by decide) rfl d_M_save_51 (fun H locs hP hD hS => ?_)
        rw [show vp_nar .boolean 1 = 1 from rfl] at hP hD
        obtain ⟨g1, hg1⟩ : ∃ z : Nat → Int32, z = upd SV f 1 := ⟨_, rfl⟩
        rw [← hg1] at hP hD
        have hP : va_P D classes [(o, .inr (4, (.ref sa :: .ref ba :: .int (nI n) :: .ref sl :: .ref sv :: fs))), (sa, .inl (ca 0, 170, .inl g)), (ba, .inl (ca 0, 1020, .inl B)), (sl, .inl (ca 0, 340, .inl (cp SL g f 170))), (sv, .inl (ca 1, 2, .inl g1))] H := hP
        have hD : va_D A [(o, .inr (4, (.ref sa :: .ref ba :: .int (nI n) :: .ref sl :: .ref sv :: fs))), (sa, .inl (ca 0, 170, .inl g)), (ba, .inl (ca 0, 1020, .inl B)), (sl, .inl (ca 0, 340, .inl (cp SL g f 170))), (sv, .inl (ca 1, 2, .inl g1))] := hD
        refine lv_aload_n hx hb d_M_save_52 rfl (lv_at hl 1 rfl) ?_
        refine f_get S cls_M hK hP 0 rfl 0 (by decide) fl_M_s rfl rfl d_M_save_53 ?_
        refine lv_bipush (v := 8) hx hb d_M_save_56 (by decide) ?_
        refine A_ild S hK hP 1 0 (f := g) rfl rfl (r := 8) (by omega) (by decide) rfl d_M_save_58 ?_
        refine lv_tope (z := nI (bn g 0)) ((hB 0 (by omega)).1) ?_
        refine lv_aload_n hx hb d_M_save_59 rfl (lv_at hl 1 rfl) ?_
        refine f_get S cls_M hK hP 0 rfl 0 (by decide) fl_M_s rfl rfl d_M_save_60 ?_
        refine lv_bipush (v := 9) hx hb d_M_save_63 (by decide) ?_
        refine A_ild S hK hP 1 0 (f := g) rfl rfl (r := 9) (by omega) (by decide) rfl d_M_save_65 ?_
        refine lv_tope (z := nI (bn g 1)) ((hB 1 (by omega)).1) ?_
        refine lv_iadd hx hb d_M_save_66 ?_
        refine lv_tope (z := nI ((bn g 0) + (bn g 1))) (nI_add (bn g 0) (bn g 1)) ?_
        exact hret _ _ _ _ _ _ d_M_save_67 rfl (by subst hg1; first | (simp only [m_sav, c_6, hcl, ↓reduceIte]; done) | (simp only [m_sav, c_6, hcl, ↓reduceIte]; rfl) | rfl) (by subst hg1; first | (simp only [m_sav, c_6, hcl, ↓reduceIte]; done) | (simp only [m_sav, c_6, hcl, ↓reduceIte]; rfl) | rfl) hP hD hS
      · have e_k : k < 170 := nle_lt (by omega) (by omega) (show ¬ nI 170 ≤ nI k from c_18)
        refine lv_aload_n hx hb d_M_save_21 rfl (lv_at hl 1 rfl) ?_
        refine f_get S cls_M hK hP 0 rfl 3 (by decide) fl_M_slots rfl rfl d_M_save_22 ?_
        refine lv_sipush (v := 170) hx hb d_M_save_25 (by decide) ?_
        refine lv_iload_n hx hb d_M_save_28 rfl (lv_at hl 2 rfl) ?_
        refine lv_imul hx hb d_M_save_29 ?_
        refine lv_tope (z := nI (170 * f)) (pk_mul 170 f) ?_
        refine lv_iload_n hx hb d_M_save_30 rfl (lv_at hl 0 rfl) ?_
        refine lv_iadd hx hb d_M_save_31 ?_
        refine lv_tope (z := nI ((170 * f) + k)) (nI_add (170 * f) k) ?_
        refine lv_aload_n hx hb d_M_save_32 rfl (lv_at hl 1 rfl) ?_
        refine f_get S cls_M hK hP 0 rfl 0 (by decide) fl_M_s rfl rfl d_M_save_33 ?_
        refine lv_iload_n hx hb d_M_save_36 rfl (lv_at hl 0 rfl) ?_
        refine A_ild S hK hP 1 0 (f := g) rfl rfl (r := k) (by omega) (by decide) rfl d_M_save_37 ?_
        refine A_ist S hK hP hD hS 3 0 (f := cp SL g f k) rfl rfl (r := (170 * f) + k) (by omega) (by decide) rfl d_M_save_38 (fun H locs hP hD hS => ?_)
        rw [show upd (cp SL g f k) ((170 * f) + k) (g k) = cp SL g f (k + 1) from cp_s SL g f k] at hP hD
        have hP : va_P D classes [(o, .inr (4, (.ref sa :: .ref ba :: .int (nI n) :: .ref sl :: .ref sv :: fs))), (sa, .inl (ca 0, 170, .inl g)), (ba, .inl (ca 0, 1020, .inl B)), (sl, .inl (ca 0, 340, .inl (cp SL g f (k + 1)))), (sv, .inl (ca 1, 2, .inl SV))] H := hP
        have hD : va_D A [(o, .inr (4, (.ref sa :: .ref ba :: .int (nI n) :: .ref sl :: .ref sv :: fs))), (sa, .inl (ca 0, 170, .inl g)), (ba, .inl (ca 0, 1020, .inl B)), (sl, .inl (ca 0, 340, .inl (cp SL g f (k + 1)))), (sv, .inl (ca 1, 2, .inl SV))] := hD
        refine lv_iinc (v := nI (k + 1)) (lv' := [(2, .int (nI (k + 1))), (0, .ref o), (1, .int (nI f))]) hx hb d_M_save_39 hl (k := 0) rfl (nI_1 k) (by decide) rfl (fun ls hl => ?_)
        refine lv_goto (tgt := 14) hx hb d_M_save_42 (by decide) ?_
        exact ih (k + 1) (by omega) (by omega) _ _ hP hD hS _ (lv_sub hl [0, 1, 2] rfl)
  · refine lv_bipush (v := (-2)) hx hb d_M_save_9 (by decide) ?_
    exact hret _ _ _ _ _ _ d_M_save_11 rfl (by first | (simp only [m_sav, c_6, ↓reduceIte]; done) | (simp only [m_sav, c_6, ↓reduceIte]; rfl) | rfl) (by first | (simp only [m_sav, c_6, ↓reduceIte]; done) | (simp only [m_sav, c_6, ↓reduceIte]; rfl) | rfl) hP hD hS
def m_res (g SL SV : Nat → Int32) (x : Int32) : Int32 × (Nat → Int32) × Bool := if isf x = 0 then (-2, g, false) else if SV x.toNatClampNeg = 0 then (-5, g, false) else (nI (bn (cb g SL x.toNatClampNeg 170) 0 + bn (cb g SL x.toNatClampNeg 170) 1), cb g SL x.toNatClampNeg 170, true)
set_option maxHeartbeats 4000000 in
set_option maxRecDepth 100000 in
theorem c_M_restore (l : Launch) (D : va_G) (ca : Nat → ClassId) (o sa ba sl sv : Nat) (fs : List Value) (g B SL SV : Nat → Int32) (n : Nat) (x : Int32) (hBS : ∀ f, f < 2 → ¬ SV f = 0 → BN (cb g SL f 170)) (hn6 : n ≤ 6) : MI l y_M_restore b_M_restore 3 (some .int) 1 22 D ca [.ref o, .int x] [(o, .inr (4, (.ref sa :: .ref ba :: .int (nI n) :: .ref sl :: .ref sv :: fs))), (sa, .inl (ca 0, 170, .inl g)), (ba, .inl (ca 0, 1020, .inl B)), (sl, .inl (ca 0, 340, .inl SL)), (sv, .inl (ca 1, 2, .inl SV))] ((m_res g SL SV x).1) [(o, .inr (4, (.ref sa :: .ref ba :: .int (nI (kbn (m_res g SL SV x).2.2 n)) :: .ref sl :: .ref sv :: fs))), (sa, .inl (ca 0, 170, .inl ((m_res g SL SV x).2.1))), (ba, .inl (ca 0, 1020, .inl (kbB (m_res g SL SV x).2.2 g B n))), (sl, .inl (ca 0, 340, .inl SL)), (sv, .inl (ca 1, 2, .inl SV))] := by
  refine MI.mk (ty := .int) rfl rfl (Nat.le_of_ble_eq_true rfl) ?_
  intro p e s m args below meth c Q A S hA hP hD hK
  obtain ⟨hx, hb, hml, hown, hts⟩ := id S
  intro hret ls hl0 hS
  have hl : lv_has ls 3 [(0, .ref o), (1, .int x)] := hl0
  refine lv_iload_n hx hb d_M_restore_0 rfl (lv_at hl 1 rfl) ?_
  refine lv_iconst (v := 0) hx hb d_M_restore_1 (by decide) ?_
  refine lv_iconst (v := 1) hx hb d_M_restore_2 (by decide) ?_
  refine RO.callS S (c_M_in l D ca  x 0 1 ) k_M_26 hK rfl rfl hl.1 ⟨Nat.le_of_ble_eq_true rfl, Nat.le_of_ble_eq_true rfl⟩ ⟨Nat.zero_le _, Nat.zero_le _⟩ (Nat.le_of_ble_eq_true rfl) d_M_restore_3 ?_
  refine lv_tope (z := isf x) (inr_f x) ?_
  refine lv_if_ne (tgt := 12) hx hb d_M_restore_6 (by decide) (fun c_6 => ?_) (fun c_6 => ?_)
  · obtain ⟨f, hf, rfl⟩ := isf_of c_6
    have hcl : (nI f).toNatClampNeg = f := nI_clamp (by omega)
    refine lv_aload_n hx hb d_M_restore_12 rfl (lv_at hl 0 rfl) ?_
    refine f_get S cls_M hK hP 0 rfl 4 (by decide) fl_M_isSaved rfl rfl d_M_restore_13 ?_
    refine lv_iload_n hx hb d_M_restore_16 rfl (lv_at hl 1 rfl) ?_
    refine A_zld S hK hP 4 1 (f := SV) rfl rfl (r := f) (by omega) (by decide) rfl d_M_restore_17 ?_
    refine lv_if_ne (tgt := 24) hx hb d_M_restore_18 (by decide) (fun c_18 => ?_) (fun c_18 => ?_)
    · have hB2 := hBS f hf c_18
      refine lv_aload_n hx hb d_M_restore_24 rfl (lv_at hl 0 rfl) ?_
      refine MV.callV (wr := [(sl, .inl (ca 0, 340, .inl SL)), (sv, .inl (ca 1, 2, .inl SV))]) S (c_M_know l D ca  o sa ba (.ref sl :: .ref sv :: fs) g B n (by omega)) k_M_82 hP hD hS hA hK [0, 1, 2] [3, 4] rfl rfl (by decide) (by decide) (by decide) 0 (ci := 4) (fs := (.ref sa :: .ref ba :: .int (nI n) :: .ref sl :: .ref sv :: fs)) rfl rfl rfl rfl hl.1 ⟨Nat.le_of_ble_eq_true rfl, Nat.le_of_ble_eq_true rfl⟩ ⟨Nat.zero_le _, Nat.zero_le _⟩ (Nat.le_of_ble_eq_true rfl) d_M_restore_25 (fun H locs hP hD hS => ?_)
      have hP : va_P D classes [(o, .inr (4, (.ref sa :: .ref ba :: .int (nI (knn n)) :: .ref sl :: .ref sv :: fs))), (sa, .inl (ca 0, 170, .inl g)), (ba, .inl (ca 0, 1020, .inl (knB g B n))), (sl, .inl (ca 0, 340, .inl SL)), (sv, .inl (ca 1, 2, .inl SV))] H := hP.sub [2, 3, 4, 0, 1] rfl
      have hD : va_D A [(o, .inr (4, (.ref sa :: .ref ba :: .int (nI (knn n)) :: .ref sl :: .ref sv :: fs))), (sa, .inl (ca 0, 170, .inl g)), (ba, .inl (ca 0, 1020, .inl (knB g B n))), (sl, .inl (ca 0, 340, .inl SL)), (sv, .inl (ca 1, 2, .inl SV))] := hD.sub [2, 3, 4, 0, 1] (by decide) rfl
      refine lv_iconst (v := 0) hx hb d_M_restore_28 (by decide) ?_
      refine lv_istore_n (lv' := [(2, .int 0), (0, .ref o), (1, .int (nI f))]) hx hb d_M_restore_29 rfl hl (by decide) rfl (fun ls hl => ?_)
      suffices lp : ∀ (r k : Nat), 170 - k < r → k ≤ 170 → ∀ (H : Heap) (locs : List Loc), va_P D classes [(o, .inr (4, (.ref sa :: .ref ba :: .int (nI (knn n)) :: .ref sl :: .ref sv :: fs))), (sa, .inl (ca 0, 170, .inl (cb g SL f k))), (ba, .inl (ca 0, 1020, .inl (knB g B n))), (sl, .inl (ca 0, 340, .inl SL)), (sv, .inl (ca 1, 2, .inl SV))] H → va_D A [(o, .inr (4, (.ref sa :: .ref ba :: .int (nI (knn n)) :: .ref sl :: .ref sv :: fs))), (sa, .inl (ca 0, 170, .inl (cb g SL f k))), (ba, .inl (ca 0, 1020, .inl (knB g B n))), (sl, .inl (ca 0, 340, .inl SL)), (sv, .inl (ca 1, 2, .inl SV))] → va_S A s.heap H locs → ∀ ls : Array Slot, lv_has ls 3 [(2, .int (nI k)), (0, .ref o), (1, .int (nI f))] → W p l e (rm 1 22 0 0) s m args below meth c H locs 0 0 Q (F0 m 30 ls []) from lp (170 + 1) 0 (by omega) (by omega) _ _ (by rw [cb_0]; exact hP) (by rw [cb_0]; exact hD) hS _ (lv_sub hl [0, 1, 2] rfl)
      intro r
      induction r with
      | zero => intro k hk; omega
      | succ r ih =>
        intro k hk hkn H locs hP hD hS ls hl
        refine lv_iload_n hx hb d_M_restore_30 rfl (lv_at hl 0 rfl) ?_
        refine lv_sipush (v := 170) hx hb d_M_restore_31 (by decide) ?_
        refine lv_icmp_ge (tgt := 61) hx hb d_M_restore_34 (by decide) (fun c_34 => ?_) (fun c_34 => ?_)
        · have e_k : 170 ≤ k := le_of_nI (by omega) (by omega) (show nI 170 ≤ nI k from c_34)
          obtain rfl : k = 170 := by omega
          refine lv_aload_n hx hb d_M_restore_61 rfl (lv_at hl 1 rfl) ?_
          refine f_get S cls_M hK hP 0 rfl 0 (by decide) fl_M_s rfl rfl d_M_restore_62 ?_
          refine lv_bipush (v := 8) hx hb d_M_restore_65 (by decide) ?_
          refine A_ild S hK hP 1 0 (f := cb g SL f 170) rfl rfl (r := 8) (by omega) (by decide) rfl d_M_restore_67 ?_
          refine lv_tope (z := nI (bn (cb g SL f 170) 0)) ((hB2 0 (by omega)).1) ?_
          refine lv_aload_n hx hb d_M_restore_68 rfl (lv_at hl 1 rfl) ?_
          refine f_get S cls_M hK hP 0 rfl 0 (by decide) fl_M_s rfl rfl d_M_restore_69 ?_
          refine lv_bipush (v := 9) hx hb d_M_restore_72 (by decide) ?_
          refine A_ild S hK hP 1 0 (f := cb g SL f 170) rfl rfl (r := 9) (by omega) (by decide) rfl d_M_restore_74 ?_
          refine lv_tope (z := nI (bn (cb g SL f 170) 1)) ((hB2 1 (by omega)).1) ?_
          refine lv_iadd hx hb d_M_restore_75 ?_
          refine lv_tope (z := nI ((bn (cb g SL f 170) 0) + (bn (cb g SL f 170) 1))) (nI_add (bn (cb g SL f 170) 0) (bn (cb g SL f 170) 1)) ?_
          exact hret _ _ _ _ _ _ d_M_restore_76 rfl (by first | (simp only [m_res, c_6, hcl, c_18, ↓reduceIte]; done) | (simp only [m_res, c_6, hcl, c_18, ↓reduceIte]; rfl) | rfl) (by first | (simp only [m_res, c_6, hcl, c_18, ↓reduceIte]; done) | (simp only [m_res, c_6, hcl, c_18, ↓reduceIte]; rfl) | rfl) hP hD hS
        · have e_k : k < 170 := nle_lt (by omega) (by omega) (show ¬ nI 170 ≤ nI k from c_34)
          refine lv_aload_n hx hb d_M_restore_37 rfl (lv_at hl 1 rfl) ?_
          refine f_get S cls_M hK hP 0 rfl 0 (by decide) fl_M_s rfl rfl d_M_restore_38 ?_
          refine lv_iload_n hx hb d_M_restore_41 rfl (lv_at hl 0 rfl) ?_
          refine lv_aload_n hx hb d_M_restore_42 rfl (lv_at hl 1 rfl) ?_
          refine f_get S cls_M hK hP 0 rfl 3 (by decide) fl_M_slots rfl rfl d_M_restore_43 ?_
          refine lv_sipush (v := 170) hx hb d_M_restore_46 (by decide) ?_
          refine lv_iload_n hx hb d_M_restore_49 rfl (lv_at hl 2 rfl) ?_
          refine lv_imul hx hb d_M_restore_50 ?_
          refine lv_tope (z := nI (170 * f)) (pk_mul 170 f) ?_
          refine lv_iload_n hx hb d_M_restore_51 rfl (lv_at hl 0 rfl) ?_
          refine lv_iadd hx hb d_M_restore_52 ?_
          refine lv_tope (z := nI ((170 * f) + k)) (nI_add (170 * f) k) ?_
          refine A_ild S hK hP 3 0 (f := SL) rfl rfl (r := (170 * f) + k) (by omega) (by decide) rfl d_M_restore_53 ?_
          refine A_ist S hK hP hD hS 1 0 (f := cb g SL f k) rfl rfl (r := k) (by omega) (by decide) rfl d_M_restore_54 (fun H locs hP hD hS => ?_)
          rw [show upd (cb g SL f k) k (SL ((170 * f) + k)) = cb g SL f (k + 1) from cb_s g SL f k] at hP hD
          have hP : va_P D classes [(o, .inr (4, (.ref sa :: .ref ba :: .int (nI (knn n)) :: .ref sl :: .ref sv :: fs))), (sa, .inl (ca 0, 170, .inl (cb g SL f (k + 1)))), (ba, .inl (ca 0, 1020, .inl (knB g B n))), (sl, .inl (ca 0, 340, .inl SL)), (sv, .inl (ca 1, 2, .inl SV))] H := hP
          have hD : va_D A [(o, .inr (4, (.ref sa :: .ref ba :: .int (nI (knn n)) :: .ref sl :: .ref sv :: fs))), (sa, .inl (ca 0, 170, .inl (cb g SL f (k + 1)))), (ba, .inl (ca 0, 1020, .inl (knB g B n))), (sl, .inl (ca 0, 340, .inl SL)), (sv, .inl (ca 1, 2, .inl SV))] := hD
          refine lv_iinc (v := nI (k + 1)) (lv' := [(2, .int (nI (k + 1))), (0, .ref o), (1, .int (nI f))]) hx hb d_M_restore_55 hl (k := 0) rfl (nI_1 k) (by decide) rfl (fun ls hl => ?_)
          refine lv_goto (tgt := 30) hx hb d_M_restore_58 (by decide) ?_
          exact ih (k + 1) (by omega) (by omega) _ _ hP hD hS _ (lv_sub hl [0, 1, 2] rfl)
    · refine lv_bipush (v := (-5)) hx hb d_M_restore_21 (by decide) ?_
      exact hret _ _ _ _ _ _ d_M_restore_23 rfl (by first | (simp only [m_res, c_6, hcl, c_18, ↓reduceIte]; done) | (simp only [m_res, c_6, hcl, c_18, ↓reduceIte]; rfl) | rfl) (by first | (simp only [m_res, c_6, hcl, c_18, ↓reduceIte]; done) | (simp only [m_res, c_6, hcl, c_18, ↓reduceIte]; rfl) | rfl) hP hD hS
  · refine lv_bipush (v := (-2)) hx hb d_M_restore_9 (by decide) ?_
    exact hret _ _ _ _ _ _ d_M_restore_11 rfl (by first | (simp only [m_res, c_6, ↓reduceIte]; done) | (simp only [m_res, c_6, ↓reduceIte]; rfl) | rfl) (by first | (simp only [m_res, c_6, ↓reduceIte]; done) | (simp only [m_res, c_6, ↓reduceIte]; rfl) | rfl) hP hD hS
def m_cnt (g : Nat → Int32) (n pl : Nat) (x : Int32) : Int32 := if x = 10 then nI pl else if x = 11 then nI n else atp g x
set_option maxHeartbeats 4000000 in
set_option maxRecDepth 100000 in
theorem c_M_count (l : Launch) (D : va_G) (ca : Nat → ClassId) (o sa ba sl sv pd : Nat) (fs : List Value) (g : Nat → Int32) (n pl : Nat) (x : Int32) (hB : BN g) : RO l y_M_count b_M_count 2 (some .int) 6 130 D ca [.ref o, .int x] [(o, .inr (4, (.ref sa :: .ref ba :: .int (nI n) :: .ref sl :: .ref sv :: .ref pd :: .int (nI pl) :: fs))), (sa, .inl (ca 0, 170, .inl g))] (m_cnt g n pl x) := by
  refine RO.mk (ty := .int) rfl rfl (Nat.le_of_ble_eq_true rfl) ?_
  intro p e s m args below meth c Q S hP hK
  obtain ⟨hx, hb, hml, hown, hts⟩ := id S
  intro hret ls hl0
  have hl : lv_has ls 2 [(0, .ref o), (1, .int x)] := hl0
  refine lv_iload_n hx hb d_M_count_0 rfl (lv_at hl 1 rfl) ?_
  by_cases hsw : 0 ≤ x.toInt ∧ x.toInt ≤ 11
  · have hcs : x.toInt = 0 ∨ x.toInt = 1 ∨ x.toInt = 2 ∨ x.toInt = 3 ∨ x.toInt = 4 ∨ x.toInt = 5 ∨ x.toInt = 6 ∨ x.toInt = 7 ∨ x.toInt = 8 ∨ x.toInt = 9 ∨ x.toInt = 10 ∨ x.toInt = 11 := by omega
    rcases hcs with hk | hk | hk | hk | hk | hk | hk | hk | hk | hk | hk | hk
    · have hk2 : x = 0 := Int32.toInt_inj.mp (by rw [hk]; decide)
      subst hk2
      refine lv_tableIn (tgt := 64) (off := 63) hx hb d_M_count_1 (by rw [hk]; decide) (by rw [hk]; decide) (by rw [hk]; rfl) (by decide) ?_
      refine lv_aload_n hx hb d_M_count_64 rfl (lv_at hl 0 rfl) ?_
      refine f_get S cls_M hK hP 0 rfl 0 (by decide) fl_M_s rfl rfl d_M_count_65 ?_
      refine lv_iload_n hx hb d_M_count_68 rfl (lv_at hl 1 rfl) ?_
      refine A_ild S hK hP 1 0 (f := g) rfl rfl (r := 0) (by omega) (by decide) rfl d_M_count_69 ?_
      exact hret _ _ _ d_M_count_70 rfl (by first | (simp only [m_cnt, atp, ↓reduceIte]; done) | (simp only [m_cnt, atp, ↓reduceIte]; rfl) | rfl)
    · have hk2 : x = 1 := Int32.toInt_inj.mp (by rw [hk]; decide)
      subst hk2
      refine lv_tableIn (tgt := 64) (off := 63) hx hb d_M_count_1 (by rw [hk]; decide) (by rw [hk]; decide) (by rw [hk]; rfl) (by decide) ?_
      refine lv_aload_n hx hb d_M_count_64 rfl (lv_at hl 0 rfl) ?_
      refine f_get S cls_M hK hP 0 rfl 0 (by decide) fl_M_s rfl rfl d_M_count_65 ?_
      refine lv_iload_n hx hb d_M_count_68 rfl (lv_at hl 1 rfl) ?_
      refine A_ild S hK hP 1 0 (f := g) rfl rfl (r := 1) (by omega) (by decide) rfl d_M_count_69 ?_
      exact hret _ _ _ d_M_count_70 rfl (by first | (simp only [m_cnt, atp, ↓reduceIte]; done) | (simp only [m_cnt, atp, ↓reduceIte]; rfl) | rfl)
    · have hk2 : x = 2 := Int32.toInt_inj.mp (by rw [hk]; decide)
      subst hk2
      refine lv_tableIn (tgt := 64) (off := 63) hx hb d_M_count_1 (by rw [hk]; decide) (by rw [hk]; decide) (by rw [hk]; rfl) (by decide) ?_
      refine lv_aload_n hx hb d_M_count_64 rfl (lv_at hl 0 rfl) ?_
      refine f_get S cls_M hK hP 0 rfl 0 (by decide) fl_M_s rfl rfl d_M_count_65 ?_
      refine lv_iload_n hx hb d_M_count_68 rfl (lv_at hl 1 rfl) ?_
      refine A_ild S hK hP 1 0 (f := g) rfl rfl (r := 2) (by omega) (by decide) rfl d_M_count_69 ?_
      exact hret _ _ _ d_M_count_70 rfl (by first | (simp only [m_cnt, atp, ↓reduceIte]; done) | (simp only [m_cnt, atp, ↓reduceIte]; rfl) | rfl)
    · have hk2 : x = 3 := Int32.toInt_inj.mp (by rw [hk]; decide)
      subst hk2
      refine lv_tableIn (tgt := 64) (off := 63) hx hb d_M_count_1 (by rw [hk]; decide) (by rw [hk]; decide) (by rw [hk]; rfl) (by decide) ?_
      refine lv_aload_n hx hb d_M_count_64 rfl (lv_at hl 0 rfl) ?_
      refine f_get S cls_M hK hP 0 rfl 0 (by decide) fl_M_s rfl rfl d_M_count_65 ?_
      refine lv_iload_n hx hb d_M_count_68 rfl (lv_at hl 1 rfl) ?_
      refine A_ild S hK hP 1 0 (f := g) rfl rfl (r := 3) (by omega) (by decide) rfl d_M_count_69 ?_
      exact hret _ _ _ d_M_count_70 rfl (by first | (simp only [m_cnt, atp, ↓reduceIte]; done) | (simp only [m_cnt, atp, ↓reduceIte]; rfl) | rfl)
    · have hk2 : x = 4 := Int32.toInt_inj.mp (by rw [hk]; decide)
      subst hk2
      refine lv_tableIn (tgt := 71) (off := 70) hx hb d_M_count_1 (by rw [hk]; decide) (by rw [hk]; decide) (by rw [hk]; rfl) (by decide) ?_
      refine lv_aload_n hx hb d_M_count_71 rfl (lv_at hl 0 rfl) ?_
      refine RO.callV S (c_M_gap l D ca o sa (.ref ba :: .int (nI n) :: .ref sl :: .ref sv :: .ref pd :: .int (nI pl) :: fs) g  hB) k_M_70 hP hK [0, 1] rfl 0 (ci := 4) (fs := (.ref sa :: .ref ba :: .int (nI n) :: .ref sl :: .ref sv :: .ref pd :: .int (nI pl) :: fs)) rfl rfl rfl rfl hl.1 ⟨Nat.le_of_ble_eq_true rfl, Nat.le_of_ble_eq_true rfl⟩ ⟨Nat.zero_le _, Nat.zero_le _⟩ (Nat.le_of_ble_eq_true rfl) d_M_count_72 ?_
      exact hret _ _ _ d_M_count_75 rfl (by first | (simp only [m_cnt, atp, ↓reduceIte]; done) | (simp only [m_cnt, atp, ↓reduceIte]; rfl) | rfl)
    · have hk2 : x = 5 := Int32.toInt_inj.mp (by rw [hk]; decide)
      subst hk2
      refine lv_tableIn (tgt := 76) (off := 75) hx hb d_M_count_1 (by rw [hk]; decide) (by rw [hk]; decide) (by rw [hk]; rfl) (by decide) ?_
      refine lv_aload_n hx hb d_M_count_76 rfl (lv_at hl 0 rfl) ?_
      refine f_get S cls_M hK hP 0 rfl 0 (by decide) fl_M_s rfl rfl d_M_count_77 ?_
      refine lv_bipush (v := 8) hx hb d_M_count_80 (by decide) ?_
      refine A_ild S hK hP 1 0 (f := g) rfl rfl (r := 8) (by omega) (by decide) rfl d_M_count_82 ?_
      refine lv_tope (z := nI (bn g 0)) ((hB 0 (by omega)).1) ?_
      refine lv_aload_n hx hb d_M_count_83 rfl (lv_at hl 0 rfl) ?_
      refine f_get S cls_M hK hP 0 rfl 0 (by decide) fl_M_s rfl rfl d_M_count_84 ?_
      refine lv_bipush (v := 9) hx hb d_M_count_87 (by decide) ?_
      refine A_ild S hK hP 1 0 (f := g) rfl rfl (r := 9) (by omega) (by decide) rfl d_M_count_89 ?_
      refine lv_tope (z := nI (bn g 1)) ((hB 1 (by omega)).1) ?_
      refine lv_iadd hx hb d_M_count_90 ?_
      refine lv_tope (z := nI ((bn g 0) + (bn g 1))) (nI_add (bn g 0) (bn g 1)) ?_
      exact hret _ _ _ d_M_count_91 rfl (by first | (simp only [m_cnt, atp, ↓reduceIte]; done) | (simp only [m_cnt, atp, ↓reduceIte]; rfl) | rfl)
    · have hk2 : x = 6 := Int32.toInt_inj.mp (by rw [hk]; decide)
      subst hk2
      refine lv_tableIn (tgt := 92) (off := 91) hx hb d_M_count_1 (by rw [hk]; decide) (by rw [hk]; decide) (by rw [hk]; rfl) (by decide) ?_
      refine lv_aload_n hx hb d_M_count_92 rfl (lv_at hl 0 rfl) ?_
      refine f_get S cls_M hK hP 0 rfl 0 (by decide) fl_M_s rfl rfl d_M_count_93 ?_
      refine lv_iload_n hx hb d_M_count_96 rfl (lv_at hl 1 rfl) ?_
      refine lv_iconst (v := 2) hx hb d_M_count_97 (by decide) ?_
      refine lv_isub hx hb d_M_count_98 ?_
      refine lv_tope (z := 4) (by decide) ?_
      refine A_ild S hK hP 1 0 (f := g) rfl rfl (r := 4) (by omega) (by decide) rfl d_M_count_99 ?_
      exact hret _ _ _ d_M_count_100 rfl (by first | (simp only [m_cnt, atp, ↓reduceIte]; done) | (simp only [m_cnt, atp, ↓reduceIte]; rfl) | rfl)
    · have hk2 : x = 7 := Int32.toInt_inj.mp (by rw [hk]; decide)
      subst hk2
      refine lv_tableIn (tgt := 92) (off := 91) hx hb d_M_count_1 (by rw [hk]; decide) (by rw [hk]; decide) (by rw [hk]; rfl) (by decide) ?_
      refine lv_aload_n hx hb d_M_count_92 rfl (lv_at hl 0 rfl) ?_
      refine f_get S cls_M hK hP 0 rfl 0 (by decide) fl_M_s rfl rfl d_M_count_93 ?_
      refine lv_iload_n hx hb d_M_count_96 rfl (lv_at hl 1 rfl) ?_
      refine lv_iconst (v := 2) hx hb d_M_count_97 (by decide) ?_
      refine lv_isub hx hb d_M_count_98 ?_
      refine lv_tope (z := 5) (by decide) ?_
      refine A_ild S hK hP 1 0 (f := g) rfl rfl (r := 5) (by omega) (by decide) rfl d_M_count_99 ?_
      exact hret _ _ _ d_M_count_100 rfl (by first | (simp only [m_cnt, atp, ↓reduceIte]; done) | (simp only [m_cnt, atp, ↓reduceIte]; rfl) | rfl)
    · have hk2 : x = 8 := Int32.toInt_inj.mp (by rw [hk]; decide)
      subst hk2
      refine lv_tableIn (tgt := 92) (off := 91) hx hb d_M_count_1 (by rw [hk]; decide) (by rw [hk]; decide) (by rw [hk]; rfl) (by decide) ?_
      refine lv_aload_n hx hb d_M_count_92 rfl (lv_at hl 0 rfl) ?_
      refine f_get S cls_M hK hP 0 rfl 0 (by decide) fl_M_s rfl rfl d_M_count_93 ?_
      refine lv_iload_n hx hb d_M_count_96 rfl (lv_at hl 1 rfl) ?_
      refine lv_iconst (v := 2) hx hb d_M_count_97 (by decide) ?_
      refine lv_isub hx hb d_M_count_98 ?_
      refine lv_tope (z := 6) (by decide) ?_
      refine A_ild S hK hP 1 0 (f := g) rfl rfl (r := 6) (by omega) (by decide) rfl d_M_count_99 ?_
      exact hret _ _ _ d_M_count_100 rfl (by first | (simp only [m_cnt, atp, ↓reduceIte]; done) | (simp only [m_cnt, atp, ↓reduceIte]; rfl) | rfl)
    · have hk2 : x = 9 := Int32.toInt_inj.mp (by rw [hk]; decide)
      subst hk2
      refine lv_tableIn (tgt := 92) (off := 91) hx hb d_M_count_1 (by rw [hk]; decide) (by rw [hk]; decide) (by rw [hk]; rfl) (by decide) ?_
      refine lv_aload_n hx hb d_M_count_92 rfl (lv_at hl 0 rfl) ?_
      refine f_get S cls_M hK hP 0 rfl 0 (by decide) fl_M_s rfl rfl d_M_count_93 ?_
      refine lv_iload_n hx hb d_M_count_96 rfl (lv_at hl 1 rfl) ?_
      refine lv_iconst (v := 2) hx hb d_M_count_97 (by decide) ?_
      refine lv_isub hx hb d_M_count_98 ?_
      refine lv_tope (z := 7) (by decide) ?_
      refine A_ild S hK hP 1 0 (f := g) rfl rfl (r := 7) (by omega) (by decide) rfl d_M_count_99 ?_
      exact hret _ _ _ d_M_count_100 rfl (by first | (simp only [m_cnt, atp, ↓reduceIte]; done) | (simp only [m_cnt, atp, ↓reduceIte]; rfl) | rfl)
    · have hk2 : x = 10 := Int32.toInt_inj.mp (by rw [hk]; decide)
      subst hk2
      refine lv_tableIn (tgt := 101) (off := 100) hx hb d_M_count_1 (by rw [hk]; decide) (by rw [hk]; decide) (by rw [hk]; rfl) (by decide) ?_
      refine lv_aload_n hx hb d_M_count_101 rfl (lv_at hl 0 rfl) ?_
      refine f_get S cls_M hK hP 0 rfl 6 (by decide) fl_M_padLength rfl rfl d_M_count_102 ?_
      exact hret _ _ _ d_M_count_105 rfl (by first | (simp only [m_cnt, atp, ↓reduceIte]; done) | (simp only [m_cnt, atp, ↓reduceIte]; rfl) | rfl)
    · have hk2 : x = 11 := Int32.toInt_inj.mp (by rw [hk]; decide)
      subst hk2
      refine lv_tableIn (tgt := 106) (off := 105) hx hb d_M_count_1 (by rw [hk]; decide) (by rw [hk]; decide) (by rw [hk]; rfl) (by decide) ?_
      refine lv_aload_n hx hb d_M_count_106 rfl (lv_at hl 0 rfl) ?_
      refine f_get S cls_M hK hP 0 rfl 2 (by decide) fl_M_known rfl rfl d_M_count_107 ?_
      exact hret _ _ _ d_M_count_110 rfl (by first | (simp only [m_cnt, atp, ↓reduceIte]; done) | (simp only [m_cnt, atp, ↓reduceIte]; rfl) | rfl)
  · have hn_0 : ¬ x = 0 := fun q => hsw (by rw [q]; decide)
    have hn_1 : ¬ x = 1 := fun q => hsw (by rw [q]; decide)
    have hn_2 : ¬ x = 2 := fun q => hsw (by rw [q]; decide)
    have hn_3 : ¬ x = 3 := fun q => hsw (by rw [q]; decide)
    have hn_4 : ¬ x = 4 := fun q => hsw (by rw [q]; decide)
    have hn_5 : ¬ x = 5 := fun q => hsw (by rw [q]; decide)
    have hn_6 : ¬ x = 6 := fun q => hsw (by rw [q]; decide)
    have hn_7 : ¬ x = 7 := fun q => hsw (by rw [q]; decide)
    have hn_8 : ¬ x = 8 := fun q => hsw (by rw [q]; decide)
    have hn_9 : ¬ x = 9 := fun q => hsw (by rw [q]; decide)
    have hn_10 : ¬ x = 10 := fun q => hsw (by rw [q]; decide)
    have hn_11 : ¬ x = 11 := fun q => hsw (by rw [q]; decide)
    refine lv_tableOut (tgt := 111) hx hb d_M_count_1 (by omega) (by decide) ?_
    refine lv_bipush (v := (-2)) hx hb d_M_count_111 (by decide) ?_
    exact hret _ _ _ d_M_count_113 rfl (by first | (simp only [m_cnt, atp, hn_0, hn_1, hn_2, hn_3, hn_4, hn_5, hn_6, hn_7, hn_8, hn_9, hn_10, hn_11, ↓reduceIte]; done) | (simp only [m_cnt, atp, hn_0, hn_1, hn_2, hn_3, hn_4, hn_5, hn_6, hn_7, hn_8, hn_9, hn_10, hn_11, ↓reduceIte]; rfl) | rfl)
set_option maxHeartbeats 4000000 in
set_option maxRecDepth 100000 in
theorem c_M_wipe (l : Launch) (D : va_G) (ca : Nat → ClassId) (o sa ba sl sv pd : Nat) (fs : List Value) (n pl : Nat)  : MI l y_M_wipe b_M_wipe 2 (some .int) 0 0 D ca [.ref o] [(o, .inr (4, (.ref sa :: .ref ba :: .int (nI n) :: .ref sl :: .ref sv :: .ref pd :: .int (nI pl) :: fs)))] (nI pl) [(o, .inr (4, (.ref sa :: .ref ba :: .int (nI n) :: .ref sl :: .ref sv :: .ref pd :: .int (nI 0) :: fs)))] := by
  refine MI.mk (ty := .int) rfl rfl (Nat.le_of_ble_eq_true rfl) ?_
  intro p e s m args below meth c Q A S hA hP hD hK
  obtain ⟨hx, hb, hml, hown, hts⟩ := id S
  intro hret ls hl0 hS
  have hl : lv_has ls 2 [(0, .ref o)] := hl0
  refine lv_aload_n hx hb d_M_wipe_0 rfl (lv_at hl 0 rfl) ?_
  refine f_get S cls_M hK hP 0 rfl 6 (by decide) fl_M_padLength rfl rfl d_M_wipe_1 ?_
  refine lv_istore_n (lv' := [(1, .int (nI pl)), (0, .ref o)]) hx hb d_M_wipe_4 rfl hl (by decide) rfl (fun ls hl => ?_)
  refine lv_aload_n hx hb d_M_wipe_5 rfl (lv_at hl 1 rfl) ?_
  refine lv_iconst (v := 0) hx hb d_M_wipe_6 (by decide) ?_
  refine f_put S cls_M hK hP hD hS 0 rfl 6 (by decide) fl_M_padLength rfl rfl (rfl) (rfl) (Nat.le_of_ble_eq_true rfl) d_M_wipe_7 (fun H locs hP hD hS => ?_)
  have hP : va_P D classes [(o, .inr (4, (.ref sa :: .ref ba :: .int (nI n) :: .ref sl :: .ref sv :: .ref pd :: .int 0 :: fs)))] H := hP
  have hD : va_D A [(o, .inr (4, (.ref sa :: .ref ba :: .int (nI n) :: .ref sl :: .ref sv :: .ref pd :: .int 0 :: fs)))] := hD
  refine lv_iload_n hx hb d_M_wipe_10 rfl (lv_at hl 0 rfl) ?_
  exact hret _ _ _ _ _ _ d_M_wipe_11 rfl (by first | (simp only [↓reduceIte]; done) | (simp only [↓reduceIte]; rfl) | rfl) (by first | (simp only [↓reduceIte]; done) | (simp only [↓reduceIte]; rfl) | rfl) hP hD hS
