/-! The Tape's other methods -/
def mn2 (x y : Int32) : Int32 := if y < x then y else x
def mx2 (x y : Int32) : Int32 := if x < y then y else x
def atp (g : Nat → Int32) (x : Int32) : Int32 := if x = 0 then g 0 else if x = 1 then g 1 else if x = 2 then g 2 else if x = 3 then g 3 else if x = 4 then gp g else if x = 5 then nI (bn g 0 + bn g 1) else if x = 6 then g 4 else if x = 7 then g 5 else if x = 8 then g 6 else if x = 9 then g 7 else -2
def afv (g : Nat → Int32) (f : Nat) (y : Int32) : Int32 := if y = 0 then nI (bn g f) else if y = 1 then ft g f (bn g f) else if y = 2 then tot g 0 f (bn g f) else if y = 3 then en g f else if y = 4 then tot g 1 f (bn g f) else -2
def afl (g : Nat → Int32) (x y : Int32) : Int32 := if isf x = 0 then -1 else afv g x.toNatClampNeg y
def abv (g : Nat → Int32) (f b : Nat) (z : Int32) : Int32 := if z = 0 then g (10 + 4 * (f * 20 + b) + 0) else if z = 1 then g (10 + 4 * (f * 20 + b) + 1) else if z = 2 then wl g (f * 20 + b) else if z = 3 then lo g f b else if z = 4 then lo g f b + wl g (f * 20 + b) else if z = 5 then g (10 + 4 * (f * 20 + b) + 3) else if z = 6 then tr g f b 0 else if z = 7 then tr g f b 1 else -2
def abl (g : Nat → Int32) (x y z : Int32) : Int32 := if ibk g x y = 0 then -1 else abv g x.toNatClampNeg y.toNatClampNeg z
def fd (g : Nat → Int32) (f b : Nat) : Int32 := lo g f b + g (10 + 4 * (f * 20 + b) + 2)
def rwb (g : Nat → Int32) (x y : Int32) (f : Nat) : Nat → Nat → Option Nat
  | 0, _ => none
  | k + 1, b => if x < fd g f b then rwb g x y f k (b + 1) else if fd g f b + g (10 + 4 * (f * 20 + b) + 0) < y then rwb g x y f k (b + 1) else some (f * 20 + b)
def rwq (g : Nat → Int32) (x y : Int32) : Nat → Nat → Int32
  | 0, _ => -1
  | k + 1, f => (rwb g x y f (bn g f) 0).elim (rwq g x y k (f + 1)) nI
def rwd (g : Nat → Int32) (x y : Int32) : Int32 := rwq g x y 2 0
def kof (g : Nat → Int32) (x : Int32) : Int32 := if x < 0 then -2 else if x < g 0 then (if iig g x (x + 1) = 0 then (if en g 0 ≤ x then (if 0 ≤ rwd g x (x + 1) then 12 else 11) else (if 0 ≤ rwd g x (x + 1) then 2 else 1)) else 0) else -2
def grd (g : Nat → Int32) (x : Int32) : Int32 := if isf x = 0 then -1 else if nI (bn g x.toNatClampNeg) < 20 then mx2 0 (mn2 99 (gp g - g 1 - 2 * g 2)) else 0
def btf (g : Nat → Int32) (x : Int32) : Int32 := if x < 1 then -2 else if x ≤ 99 then (if 1 ≤ x + 2 * g 2 then mn2 (40 - nI (bn g 0 + bn g 1)) ((gp g - g 1) / (x + 2 * g 2)) else 0) else -2
def nsa (g : Nat → Int32) (x : Int32) (f b w : Nat) : Int32 := if x = 0 then nI f else if x = 1 then nI b else if x = 2 then nI w else tr g f b w
def nst (g : Nat → Int32) (x : Int32) (f b w : Nat) (q : Int32 × Int32) : Int32 × Int32 := if q.1 < 0 then (tr g f b w, nsa g x f b w) else if q.1 ≤ tr g f b w then q else (tr g f b w, nsa g x f b w)
def nsb (g : Nat → Int32) (x : Int32) (f : Nat) : Nat → Nat → Int32 × Int32 → Int32 × Int32
  | 0, _, q => q
  | k + 1, b, q => nsb g x f k (b + 1) (nst g x f b 1 (nst g x f b 0 q))
def nsf (g : Nat → Int32) (x : Int32) : Nat → Nat → Int32 × Int32 → Int32 × Int32
  | 0, _, q => q
  | k + 1, f, q => nsf g x k (f + 1) (nsb g x f (bn g f) 0 q)
def nsr (g : Nat → Int32) (x : Int32) : Int32 := if x < 0 then -2 else if x ≤ 3 then (nsf g x 2 0 (-1, -6)).2 else -2
def s_len (g : Nat → Int32) (x : Int32) : Int32 × (Nat → Int32) := if x < 100 then (-2, g) else if x ≤ 2000 then (if 0 < nI (bn g 0 + bn g 1) then (-5, g) else if g 4 ≤ 0 then (g 0, upd (upd g 0 x) 3 (mn2 ((upd g 0 x) 3) ((upd g 0 x) 0))) else (-5, g)) else (-2, g)
def s_tun (g : Nat → Int32) (x y : Int32) : Int32 × (Nat → Int32) := if x < 1 then (-2, g) else if 99 < x then (-2, g) else if y < 1 then (-2, g) else if y ≤ 9 then (if x ≤ gp g then (g 1 + 100 * g 2, upd (upd g 1 x) 2 y) else (-5, g)) else (-2, g)
def s_wr (g : Nat → Int32) (f b : Nat) (d u : Int32) : Nat → Int32 :=
  let g1 := tv g (en g f)
  let g2 := upd g1 (10 + 4 * (f * 20 + b) + 0) d
  let g3 := upd g2 (10 + 4 * (f * 20 + b) + 1) u
  let g4 := upd g3 (10 + 4 * (f * 20 + b) + 2) (g3 2)
  let g5 := upd g4 (10 + 4 * (f * 20 + b) + 3) 0
  let g6 := upd g5 (8 + f) (nI (b + 1))
  tv g6 (en g6 f)
def s_add (g : Nat → Int32) (x d u : Int32) : Int32 × (Nat → Int32) := if isf x = 0 then (-1, g) else if d < 1 then (-2, g) else if 99 < d then (-2, g) else if u < 0 then (-2, g) else if u ≤ 9999 then (if nI (bn g x.toNatClampNeg) < 20 then (if g 1 ≤ gp g - (d + 2 * g 2) then (nI (bn g x.toNatClampNeg), s_wr g x.toNatClampNeg (bn g x.toNatClampNeg) d u) else (-5, g)) else (-4, g)) else (-2, g)
def s_cut (g : Nat → Int32) (x y : Int32) : Int32 × (Nat → Int32) := if isf x = 0 then (-1, g) else if 0 ≤ y then (if y ≤ nI (bn g x.toNatClampNeg) then (nI (bn g x.toNatClampNeg) - y, upd g (8 + x.toNatClampNeg) y) else (-5, g)) else (-2, g)
def s_mov (g : Nat → Int32) (x : Int32) : Int32 × (Nat → Int32) := if x < 0 then (-2, g) else if x ≤ g 0 then (ab (x - g 3), tv g x) else (-2, g)
def s_rew (g : Nat → Int32) : Int32 × (Nat → Int32) := if g 0 - g 3 < g 3 then ((tv g (g 0)) 3, tv g (g 0)) else ((tv g 0) 3, tv g 0)
def rem10 (z : Int32) : Int32 := z - z / 10 * 10
def s_rv (g : Nat → Int32) (f b w : Nat) : Int32 × (Nat → Int32) :=
  let g1 := tv g (sr g f b w)
  let g2 := tv g1 (sr g1 f b (1 - w))
  let g3 := upd g2 (10 + 4 * (f * 20 + b) + 3) (g2 (10 + 4 * (f * 20 + b) + 3) + 1)
  let g4 := upd g3 7 (g3 7 + 1)
  (rem10 (g4 (10 + 4 * (f * 20 + b) + 1) + nI b + nI w), g4)
def s_rd (g : Nat → Int32) (x y z : Int32) : Int32 × (Nat → Int32) := if ibk g x y = 0 then (-1, g) else if z = 0 then s_rv g x.toNatClampNeg y.toNatClampNeg 0 else if z = 1 then s_rv g x.toNatClampNeg y.toNatClampNeg 1 else (-2, g)
def s_sv (g : Nat → Int32) (x o : Int32) : Int32 × (Nat → Int32) :=
  let g3 := upd g 0 (g 0 - o)
  let g4 := upd g3 3 (g3 3 - mx2 0 (mn2 o (g3 3 - x)))
  let g5 := upd g4 4 (g4 4 + 1)
  let g6 := upd g5 5 (g5 5 + o)
  (g6 0, g6)
def s_sd (g : Nat → Int32) (r : Nat) (o : Int32) : Nat → Int32 := upd (upd g (10 + 4 * r + 0) (g (10 + 4 * r + 0) - o)) (10 + 4 * r + 1) 0
/-- a splice where it may be: k1, k2: the block keeps data, the gap stays open -/
def s_s2 (g : Nat → Int32) (x o v : Int32) (k1 k2 : Bool) : Int32 × (Nat → Int32) := if k1 = true ∨ k2 = true then (if g 4 < 9 then (if v < 0 then s_sv g x o else s_sv (s_sd g v.toNatClampNeg o) x o) else (-4, g)) else (-5, g)
def s_k1 (g : Nat → Int32) (o v : Int32) : Bool := if v < 0 then false else if g (10 + 4 * v.toNatClampNeg + 0) - o < 1 then false else true
def s_k2 (g : Nat → Int32) (x o : Int32) : Bool := if iig g x (x + o) = 0 then false else if gp g - o < g 1 then false else true
def s_spl (g : Nat → Int32) (x y : Int32) : Int32 × (Nat → Int32) := if x < 0 then (-2, g) else if g 0 ≤ x then (-2, g) else if y < 1 then (-2, g) else if y ≤ 50 then s_s2 g x (y + 1) (rwd g x (x + (y + 1))) (s_k1 g (y + 1) (rwd g x (x + (y + 1)))) (s_k2 g x (y + 1)) else (-2, g)
theorem ibk_of {g : Nat → Int32} {x y : Int32} (h : ¬ ibk g x y = 0) (hB : BN g) : ∃ f b, f < 2 ∧ b < bn g f ∧ x = nI f ∧ y = nI b := by
  unfold ibk at h
  split at h
  · exact absurd rfl h
  · rename_i h1
    obtain ⟨f, hf, rfl⟩ := isf_of h1
    split at h
    · exact absurd rfl h
    · rename_i h2
      split at h
      · exact absurd rfl h
      · rename_i h3
        obtain ⟨j, hj, rfl⟩ := nI_of h2
        rw [nI_clamp (by omega)] at h3
        have hn := (hB f hf).2
        exact ⟨f, j, hf, nle_lt hj (by omega) h3, rfl, rfl⟩
theorem nlt_lt {a b : Nat} (ha : a < 2 ^ 31) (hb : b < 2 ^ 31) (h : nI a < nI b) : a < b := (nI_ltI ha hb).mp h
theorem BN_up {g : Nat → Int32} {k : Nat} {v : Int32} (hk : k < 8 ∨ 10 ≤ k) (h : BN g) : BN (upd g k v) := fun f hf => by
  have e : bn (upd g k v) f = bn g f := by unfold bn; rw [pk_un (by omega)]
  rw [e, pk_un (by omega)]
  exact h f hf
theorem bn_up {g : Nat → Int32} {k f : Nat} {v : Int32} (hf : f < 2) (hk : k < 8 ∨ 10 ≤ k) : bn (upd g k v) f = bn g f := by unfold bn; rw [pk_un (by omega)]
theorem bn_tv {g : Nat → Int32} {f : Nat} {x : Int32} (hf : f < 2) : bn (tv g x) f = bn g f := by unfold tv; rw [bn_up hf (by omega), bn_up hf (by omega)]
theorem BN_tv {g : Nat → Int32} {x : Int32} (h : BN g) : BN (tv g x) := BN_up (by omega) (BN_up (by omega) h)
theorem BN_set {g : Nat → Int32} {f n : Nat} (hf : f < 2) (hn : n ≤ 20) (h : BN g) : BN (upd g (8 + f) (nI n)) := fun j hj => by
  unfold bn
  by_cases e : j = f
  · subst e
    rw [pk_us, nI_clamp (by omega)]
    exact ⟨rfl, hn⟩
  · rw [pk_un (by omega)]
    exact h j hj
theorem rwb_lt {g : Nat → Int32} {x y : Int32} {f : Nat} : ∀ (k b : Nat) {r : Nat}, rwb g x y f k b = some r → ∃ j, b ≤ j ∧ j < b + k ∧ r = f * 20 + j
  | 0, _, _, h => by cases h
  | k + 1, b, r, h => by
    unfold rwb at h
    split at h
    · obtain ⟨j, h1, h2, h3⟩ := rwb_lt k (b + 1) h
      exact ⟨j, by omega, by omega, h3⟩
    · split at h
      · obtain ⟨j, h1, h2, h3⟩ := rwb_lt k (b + 1) h
        exact ⟨j, by omega, by omega, h3⟩
      · cases h
        exact ⟨b, by omega, by omega, rfl⟩
theorem rwq_of {g : Nat → Int32} {x y : Int32} (hB : BN g) : ∀ (k f : Nat), f + k = 2 → rwq g x y k f = -1 ∨ ∃ r, r < 40 ∧ rwq g x y k f = nI r
  | 0, _, _ => Or.inl rfl
  | k + 1, f, hk => by
    unfold rwq
    cases hr : rwb g x y f (bn g f) 0 with
    | none => exact rwq_of hB k (f + 1) (by omega)
    | some r =>
      obtain ⟨j, h1, h2, h3⟩ := rwb_lt _ _ hr
      have hn := (hB f (by omega)).2
      exact Or.inr ⟨r, by omega, rfl⟩
theorem rwd_of {g : Nat → Int32} {x y : Int32} (hB : BN g) (h : ¬ rwd g x y < 0) : ∃ r, r < 40 ∧ rwd g x y = nI r := by
  rcases rwq_of (x := x) (y := y) hB 2 0 rfl with q | q
  · exact absurd (show rwd g x y < 0 by unfold rwd; rw [q]; decide) h
  · exact q
set_option maxHeartbeats 4000000 in
set_option maxRecDepth 100000 in
theorem c_T_isBlock (l : Launch) (D : va_G) (ca : Nat → ClassId) (t : Nat → Nat) (g : Nat → Int32) (x y : Int32) (hB : BN g): RO l y_T_isBlock b_T_isBlock 3 (some .boolean) 1 21 D ca [.ref (t 0), .int x, .int y] (tw ca t g) (ibk g x y) := by
  refine RO.mk (ty := .boolean) rfl rfl (Nat.le_of_ble_eq_true rfl) ?_
  intro p e s m args below meth c Q S hP hK
  obtain ⟨hx, hb, hml, hown, hts⟩ := id S
  intro hret ls hl0
  have hl : lv_has ls 3 [(0, .ref (t 0)), (1, .int x), (2, .int y)] := hl0
  refine lv_aload_n hx hb d_T_isBlock_0 rfl (lv_at hl 0 rfl) ?_
  refine lv_iload_n hx hb d_T_isBlock_1 rfl (lv_at hl 1 rfl) ?_
  refine T_ro0 S (c_T_isFile l D ca (t 0) x ) k_T_71 rfl hP hK rfl rfl hl.1 ⟨Nat.le_of_ble_eq_true rfl, Nat.le_of_ble_eq_true rfl⟩ ⟨Nat.zero_le _, Nat.zero_le _⟩ (Nat.le_of_ble_eq_true rfl) d_T_isBlock_2 ?_
  refine lv_if_eq (tgt := 26) hx hb d_T_isBlock_5 (by decide) (fun c_5 => ?_) (fun c_5 => ?_)
  · refine lv_iconst (v := 0) hx hb d_T_isBlock_26 (by decide) ?_
    exact hret _ _ _ d_T_isBlock_27 rfl (by first | (simp only [ibk, c_5, ↓reduceIte]; done) | (simp only [ibk, c_5, ↓reduceIte]; rfl) | rfl)
  · obtain ⟨f, hf, rfl⟩ := isf_of c_5
    have hcl : (nI f).toNatClampNeg = f := nI_clamp (by omega)
    refine lv_iload_n hx hb d_T_isBlock_8 rfl (lv_at hl 2 rfl) ?_
    refine lv_if_lt (tgt := 26) hx hb d_T_isBlock_9 (by decide) (fun c_9 => ?_) (fun c_9 => ?_)
    · refine lv_iconst (v := 0) hx hb d_T_isBlock_26 (by decide) ?_
      exact hret _ _ _ d_T_isBlock_27 rfl (by first | (simp only [ibk, c_5, hcl, c_9, ↓reduceIte]; done) | (simp only [ibk, c_5, hcl, c_9, ↓reduceIte]; rfl) | rfl)
    · refine lv_iload_n hx hb d_T_isBlock_12 rfl (lv_at hl 2 rfl) ?_
      refine lv_aload_n hx hb d_T_isBlock_13 rfl (lv_at hl 0 rfl) ?_
      refine f_get S cls_T hK hP 0 rfl 8 (by decide) fl_T_blocks rfl rfl d_T_isBlock_14 ?_
      refine lv_iload_n hx hb d_T_isBlock_17 rfl (lv_at hl 1 rfl) ?_
      refine T_bl S hK hP hB (f := f) (by omega) rfl d_T_isBlock_18 ?_
      refine lv_icmp_ge (tgt := 26) hx hb d_T_isBlock_19 (by decide) (fun c_19 => ?_) (fun c_19 => ?_)
      · refine lv_iconst (v := 0) hx hb d_T_isBlock_26 (by decide) ?_
        exact hret _ _ _ d_T_isBlock_27 rfl (by first | (simp only [ibk, c_5, hcl, c_9, c_19, ↓reduceIte]; done) | (simp only [ibk, c_5, hcl, c_9, c_19, ↓reduceIte]; rfl) | rfl)
      · refine lv_iconst (v := 1) hx hb d_T_isBlock_22 (by decide) ?_
        refine lv_goto (tgt := 27) hx hb d_T_isBlock_23 (by decide) ?_
        exact hret _ _ _ d_T_isBlock_27 rfl (by first | (simp only [ibk, c_5, hcl, c_9, c_19, ↓reduceIte]; done) | (simp only [ibk, c_5, hcl, c_9, c_19, ↓reduceIte]; rfl) | rfl)
set_option maxHeartbeats 4000000 in
set_option maxRecDepth 100000 in
theorem c_T_totalOf (l : Launch) (D : va_G) (ca : Nat → ClassId) (t : Nat → Nat) (g : Nat → Int32) (k f : Nat) (hB : BN g) (hf : f < 2) (hk : k < 4): RO l y_T_totalOf b_T_totalOf 5 (some .int) 1 22 D ca [.ref (t 0), .ref (t (2 + k)), .int (nI f)] (tw ca t g) (tot g k f (bn g f)) := by
  refine RO.mk (ty := .int) rfl rfl (Nat.le_of_ble_eq_true rfl) ?_
  intro p e s m args below meth c Q S hP hK
  obtain ⟨hx, hb, hml, hown, hts⟩ := id S
  intro hret ls hl0
  have hl : lv_has ls 5 [(0, .ref (t 0)), (1, .ref (t (2 + k))), (2, .int (nI f))] := hl0
  refine lv_iconst (v := 0) hx hb d_T_totalOf_0 (by decide) ?_
  refine lv_istore_n (lv' := [(3, .int 0), (0, .ref (t 0)), (1, .ref (t (2 + k))), (2, .int (nI f))]) hx hb d_T_totalOf_1 rfl hl (by decide) rfl (fun ls hl => ?_)
  refine lv_iconst (v := 0) hx hb d_T_totalOf_2 (by decide) ?_
  refine lv_istore (lv' := [(4, .int 0), (3, .int 0), (0, .ref (t 0)), (1, .ref (t (2 + k))), (2, .int (nI f))]) hx hb d_T_totalOf_3 hl (by decide) rfl (fun ls hl => ?_)
  have hn := (hB f hf).2
  suffices lp : ∀ (k1 i : Nat), bn g f - i < k1 → i ≤ bn g f → ∀ ls : Array Slot, lv_has ls 5 [(3, .int (tot g k f i)), (4, .int (nI i)), (0, .ref (t 0)), (1, .ref (t (2 + k))), (2, .int (nI f))] → W p l e (rm 1 22 0 0) s m args below meth c s.heap [] 0 0 Q (F0 m 5 ls []) from lp (bn g f + 1) 0 (by omega) (by omega) _ (lv_sub hl [1, 0, 2, 3, 4] rfl)
  intro k1
  induction k1 with
  | zero => intro i hi; omega
  | succ k1 ih =>
    intro i hi hin ls hl
    refine lv_iload hx hb d_T_totalOf_5 (lv_at hl 1 rfl) ?_
    refine lv_aload_n hx hb d_T_totalOf_7 rfl (lv_at hl 2 rfl) ?_
    refine f_get S cls_T hK hP 0 rfl 8 (by decide) fl_T_blocks rfl rfl d_T_totalOf_8 ?_
    refine lv_iload_n hx hb d_T_totalOf_11 rfl (lv_at hl 4 rfl) ?_
    refine T_bl S hK hP hB (f := f) (by omega) rfl d_T_totalOf_12 ?_
    refine lv_icmp_ge (tgt := 34) hx hb d_T_totalOf_13 (by decide) (fun c_13 => ?_) (fun c_13 => ?_)
    · have e_8 : bn g f ≤ i := le_of_nI (by omega) (by omega) c_13
      obtain rfl : i = bn g f := by omega
      refine lv_iload_n hx hb d_T_totalOf_34 rfl (lv_at hl 0 rfl) ?_
      exact hret _ _ _ d_T_totalOf_35 rfl (by first | (simp only [tot, c_13, ↓reduceIte]; done) | (simp only [tot, c_13, ↓reduceIte]; rfl) | rfl)
    · have e_8 : i < bn g f := nle_lt (by omega) (by omega) c_13
      refine lv_iload_n hx hb d_T_totalOf_16 rfl (lv_at hl 0 rfl) ?_
      refine lv_aload_n hx hb d_T_totalOf_17 rfl (lv_at hl 3 rfl) ?_
      refine lv_aload_n hx hb d_T_totalOf_18 rfl (lv_at hl 2 rfl) ?_
      refine lv_iload_n hx hb d_T_totalOf_19 rfl (lv_at hl 4 rfl) ?_
      refine lv_iload hx hb d_T_totalOf_20 (lv_at hl 1 rfl) ?_
      refine T_ro0 S (c_T_rowOf l D ca (t 0) f i ) k_T_82 rfl hP hK rfl rfl hl.1 ⟨Nat.le_of_ble_eq_true rfl, Nat.le_of_ble_eq_true rfl⟩ ⟨Nat.zero_le _, Nat.zero_le _⟩ (Nat.le_of_ble_eq_true rfl) d_T_totalOf_22 ?_
      refine T_ar k hk S hK hP (r := f * 20 + i) (by omega) rfl d_T_totalOf_25 ?_
      refine lv_iadd hx hb d_T_totalOf_26 ?_
      refine lv_istore_n (lv' := [(3, .int (tot g k f (i + 1))), (4, .int (nI i)), (0, .ref (t 0)), (1, .ref (t (2 + k))), (2, .int (nI f))]) hx hb d_T_totalOf_27 rfl hl (by decide) rfl (fun ls hl => ?_)
      refine lv_iinc (v := nI (i + 1)) (lv' := [(4, .int (nI (i + 1))), (3, .int (tot g k f (i + 1))), (0, .ref (t 0)), (1, .ref (t (2 + k))), (2, .int (nI f))]) hx hb d_T_totalOf_28 hl (k := 1) rfl (nI_1 i) (by decide) rfl (fun ls hl => ?_)
      refine lv_goto (tgt := 5) hx hb d_T_totalOf_31 (by decide) ?_
      exact ih (i + 1) (by omega) (by omega) _ (lv_sub hl [1, 0, 2, 3, 4] rfl)
set_option maxHeartbeats 4000000 in
set_option maxRecDepth 100000 in
theorem c_T_aboutTape (l : Launch) (D : va_G) (ca : Nat → ClassId) (t : Nat → Nat) (g : Nat → Int32) (x : Int32) (hB : BN g): RO l y_T_aboutTape b_T_aboutTape 2 (some .int) 3 66 D ca [.ref (t 0), .int x] (tw ca t g) (atp g x) := by
  refine RO.mk (ty := .int) rfl rfl (Nat.le_of_ble_eq_true rfl) ?_
  intro p e s m args below meth c Q S hP hK
  obtain ⟨hx, hb, hml, hown, hts⟩ := id S
  intro hret ls hl0
  have hl : lv_has ls 2 [(0, .ref (t 0)), (1, .int x)] := hl0
  refine lv_iload_n hx hb d_T_aboutTape_0 rfl (lv_at hl 1 rfl) ?_
  by_cases hsw : 0 ≤ x.toInt ∧ x.toInt ≤ 9
  · have hcs : x.toInt = 0 ∨ x.toInt = 1 ∨ x.toInt = 2 ∨ x.toInt = 3 ∨ x.toInt = 4 ∨ x.toInt = 5 ∨ x.toInt = 6 ∨ x.toInt = 7 ∨ x.toInt = 8 ∨ x.toInt = 9 := by omega
    rcases hcs with hk | hk | hk | hk | hk | hk | hk | hk | hk | hk
    · have hk2 : x = 0 := Int32.toInt_inj.mp (by rw [hk]; decide)
      subst hk2
      refine lv_tableIn (tgt := 56) (off := 55) hx hb d_T_aboutTape_1 (by rw [hk]; decide) (by rw [hk]; decide) (by rw [hk]; rfl) (by decide) ?_
      refine lv_aload_n hx hb d_T_aboutTape_56 rfl (lv_at hl 0 rfl) ?_
      refine f_get S cls_T hK hP 0 rfl 0 (by decide) fl_T_feet rfl rfl d_T_aboutTape_57 ?_
      exact hret _ _ _ d_T_aboutTape_60 rfl (by first | (simp only [atp, ↓reduceIte]; done) | (simp only [atp, ↓reduceIte]; rfl) | rfl)
    · have hk2 : x = 1 := Int32.toInt_inj.mp (by rw [hk]; decide)
      subst hk2
      refine lv_tableIn (tgt := 61) (off := 60) hx hb d_T_aboutTape_1 (by rw [hk]; decide) (by rw [hk]; decide) (by rw [hk]; rfl) (by decide) ?_
      refine lv_aload_n hx hb d_T_aboutTape_61 rfl (lv_at hl 0 rfl) ?_
      refine f_get S cls_T hK hP 0 rfl 1 (by decide) fl_T_leastGap rfl rfl d_T_aboutTape_62 ?_
      exact hret _ _ _ d_T_aboutTape_65 rfl (by first | (simp only [atp, ↓reduceIte]; done) | (simp only [atp, ↓reduceIte]; rfl) | rfl)
    · have hk2 : x = 2 := Int32.toInt_inj.mp (by rw [hk]; decide)
      subst hk2
      refine lv_tableIn (tgt := 66) (off := 65) hx hb d_T_aboutTape_1 (by rw [hk]; decide) (by rw [hk]; decide) (by rw [hk]; rfl) (by decide) ?_
      refine lv_aload_n hx hb d_T_aboutTape_66 rfl (lv_at hl 0 rfl) ?_
      refine f_get S cls_T hK hP 0 rfl 2 (by decide) fl_T_mark rfl rfl d_T_aboutTape_67 ?_
      exact hret _ _ _ d_T_aboutTape_70 rfl (by first | (simp only [atp, ↓reduceIte]; done) | (simp only [atp, ↓reduceIte]; rfl) | rfl)
    · have hk2 : x = 3 := Int32.toInt_inj.mp (by rw [hk]; decide)
      subst hk2
      refine lv_tableIn (tgt := 71) (off := 70) hx hb d_T_aboutTape_1 (by rw [hk]; decide) (by rw [hk]; decide) (by rw [hk]; rfl) (by decide) ?_
      refine lv_aload_n hx hb d_T_aboutTape_71 rfl (lv_at hl 0 rfl) ?_
      refine f_get S cls_T hK hP 0 rfl 3 (by decide) fl_T_head rfl rfl d_T_aboutTape_72 ?_
      exact hret _ _ _ d_T_aboutTape_75 rfl (by first | (simp only [atp, ↓reduceIte]; done) | (simp only [atp, ↓reduceIte]; rfl) | rfl)
    · have hk2 : x = 4 := Int32.toInt_inj.mp (by rw [hk]; decide)
      subst hk2
      refine lv_tableIn (tgt := 76) (off := 75) hx hb d_T_aboutTape_1 (by rw [hk]; decide) (by rw [hk]; decide) (by rw [hk]; rfl) (by decide) ?_
      refine lv_aload_n hx hb d_T_aboutTape_76 rfl (lv_at hl 0 rfl) ?_
      refine T_ro S (c_T_gap l D ca t g  hB) k_T_68 rfl hP hK rfl rfl hl.1 ⟨Nat.le_of_ble_eq_true rfl, Nat.le_of_ble_eq_true rfl⟩ ⟨Nat.zero_le _, Nat.zero_le _⟩ (Nat.le_of_ble_eq_true rfl) d_T_aboutTape_77 ?_
      exact hret _ _ _ d_T_aboutTape_80 rfl (by first | (simp only [atp, ↓reduceIte]; done) | (simp only [atp, ↓reduceIte]; rfl) | rfl)
    · have hk2 : x = 5 := Int32.toInt_inj.mp (by rw [hk]; decide)
      subst hk2
      refine lv_tableIn (tgt := 81) (off := 80) hx hb d_T_aboutTape_1 (by rw [hk]; decide) (by rw [hk]; decide) (by rw [hk]; rfl) (by decide) ?_
      refine lv_aload_n hx hb d_T_aboutTape_81 rfl (lv_at hl 0 rfl) ?_
      refine T_ro S (c_T_allBlocks l D ca t g  hB) k_T_58 rfl hP hK rfl rfl hl.1 ⟨Nat.le_of_ble_eq_true rfl, Nat.le_of_ble_eq_true rfl⟩ ⟨Nat.zero_le _, Nat.zero_le _⟩ (Nat.le_of_ble_eq_true rfl) d_T_aboutTape_82 ?_
      exact hret _ _ _ d_T_aboutTape_85 rfl (by first | (simp only [atp, ↓reduceIte]; done) | (simp only [atp, ↓reduceIte]; rfl) | rfl)
    · have hk2 : x = 6 := Int32.toInt_inj.mp (by rw [hk]; decide)
      subst hk2
      refine lv_tableIn (tgt := 86) (off := 85) hx hb d_T_aboutTape_1 (by rw [hk]; decide) (by rw [hk]; decide) (by rw [hk]; rfl) (by decide) ?_
      refine lv_aload_n hx hb d_T_aboutTape_86 rfl (lv_at hl 0 rfl) ?_
      refine f_get S cls_T hK hP 0 rfl 4 (by decide) fl_T_splices rfl rfl d_T_aboutTape_87 ?_
      exact hret _ _ _ d_T_aboutTape_90 rfl (by first | (simp only [atp, ↓reduceIte]; done) | (simp only [atp, ↓reduceIte]; rfl) | rfl)
    · have hk2 : x = 7 := Int32.toInt_inj.mp (by rw [hk]; decide)
      subst hk2
      refine lv_tableIn (tgt := 91) (off := 90) hx hb d_T_aboutTape_1 (by rw [hk]; decide) (by rw [hk]; decide) (by rw [hk]; rfl) (by decide) ?_
      refine lv_aload_n hx hb d_T_aboutTape_91 rfl (lv_at hl 0 rfl) ?_
      refine f_get S cls_T hK hP 0 rfl 5 (by decide) fl_T_feetTakenOut rfl rfl d_T_aboutTape_92 ?_
      exact hret _ _ _ d_T_aboutTape_95 rfl (by first | (simp only [atp, ↓reduceIte]; done) | (simp only [atp, ↓reduceIte]; rfl) | rfl)
    · have hk2 : x = 8 := Int32.toInt_inj.mp (by rw [hk]; decide)
      subst hk2
      refine lv_tableIn (tgt := 96) (off := 95) hx hb d_T_aboutTape_1 (by rw [hk]; decide) (by rw [hk]; decide) (by rw [hk]; rfl) (by decide) ?_
      refine lv_aload_n hx hb d_T_aboutTape_96 rfl (lv_at hl 0 rfl) ?_
      refine f_get S cls_T hK hP 0 rfl 6 (by decide) fl_T_travel rfl rfl d_T_aboutTape_97 ?_
      exact hret _ _ _ d_T_aboutTape_100 rfl (by first | (simp only [atp, ↓reduceIte]; done) | (simp only [atp, ↓reduceIte]; rfl) | rfl)
    · have hk2 : x = 9 := Int32.toInt_inj.mp (by rw [hk]; decide)
      subst hk2
      refine lv_tableIn (tgt := 101) (off := 100) hx hb d_T_aboutTape_1 (by rw [hk]; decide) (by rw [hk]; decide) (by rw [hk]; rfl) (by decide) ?_
      refine lv_aload_n hx hb d_T_aboutTape_101 rfl (lv_at hl 0 rfl) ?_
      refine f_get S cls_T hK hP 0 rfl 7 (by decide) fl_T_blocksRead rfl rfl d_T_aboutTape_102 ?_
      exact hret _ _ _ d_T_aboutTape_105 rfl (by first | (simp only [atp, ↓reduceIte]; done) | (simp only [atp, ↓reduceIte]; rfl) | rfl)
  · have hn_0 : ¬ x = 0 := fun q => hsw (by rw [q]; decide)
    have hn_1 : ¬ x = 1 := fun q => hsw (by rw [q]; decide)
    have hn_2 : ¬ x = 2 := fun q => hsw (by rw [q]; decide)
    have hn_3 : ¬ x = 3 := fun q => hsw (by rw [q]; decide)
    have hn_4 : ¬ x = 4 := fun q => hsw (by rw [q]; decide)
    have hn_5 : ¬ x = 5 := fun q => hsw (by rw [q]; decide)
    have hn_6 : ¬ x = 6 := fun q => hsw (by rw [q]; decide)
    have hn_7 : ¬ x = 7 := fun q => hsw (by rw [q]; decide)
    have hn_8 : ¬ x = 8 := fun q => hsw (by rw [q]; decide)
    have hn_9 : ¬ x = 9 := fun q => hsw (by rw [q]; decide)
    refine lv_tableOut (tgt := 106) hx hb d_T_aboutTape_1 (by omega) (by decide) ?_
    refine lv_bipush (v := (-2)) hx hb d_T_aboutTape_106 (by decide) ?_
    exact hret _ _ _ d_T_aboutTape_108 rfl (by first | (simp only [atp, hn_0, hn_1, hn_2, hn_3, hn_4, hn_5, hn_6, hn_7, hn_8, hn_9, ↓reduceIte]; done) | (simp only [atp, hn_0, hn_1, hn_2, hn_3, hn_4, hn_5, hn_6, hn_7, hn_8, hn_9, ↓reduceIte]; rfl) | rfl)
set_option maxHeartbeats 4000000 in
set_option maxRecDepth 100000 in
theorem c_T_aboutFile (l : Launch) (D : va_G) (ca : Nat → ClassId) (t : Nat → Nat) (g : Nat → Int32) (x y : Int32) (hB : BN g): RO l y_T_aboutFile b_T_aboutFile 3 (some .int) 3 68 D ca [.ref (t 0), .int x, .int y] (tw ca t g) (afl g x y) := by
  refine RO.mk (ty := .int) rfl rfl (Nat.le_of_ble_eq_true rfl) ?_
  intro p e s m args below meth c Q S hP hK
  obtain ⟨hx, hb, hml, hown, hts⟩ := id S
  intro hret ls hl0
  have hl : lv_has ls 3 [(0, .ref (t 0)), (1, .int x), (2, .int y)] := hl0
  refine lv_aload_n hx hb d_T_aboutFile_0 rfl (lv_at hl 0 rfl) ?_
  refine lv_iload_n hx hb d_T_aboutFile_1 rfl (lv_at hl 1 rfl) ?_
  refine T_ro0 S (c_T_isFile l D ca (t 0) x ) k_T_71 rfl hP hK rfl rfl hl.1 ⟨Nat.le_of_ble_eq_true rfl, Nat.le_of_ble_eq_true rfl⟩ ⟨Nat.zero_le _, Nat.zero_le _⟩ (Nat.le_of_ble_eq_true rfl) d_T_aboutFile_2 ?_
  refine lv_if_ne (tgt := 10) hx hb d_T_aboutFile_5 (by decide) (fun c_5 => ?_) (fun c_5 => ?_)
  · obtain ⟨f, hf, rfl⟩ := isf_of c_5
    have hcl : (nI f).toNatClampNeg = f := nI_clamp (by omega)
    refine lv_iload_n hx hb d_T_aboutFile_10 rfl (lv_at hl 2 rfl) ?_
    by_cases hsw : 0 ≤ y.toInt ∧ y.toInt ≤ 4
    · have hcs : y.toInt = 0 ∨ y.toInt = 1 ∨ y.toInt = 2 ∨ y.toInt = 3 ∨ y.toInt = 4 := by omega
      rcases hcs with hk | hk | hk | hk | hk
      · have hk2 : y = 0 := Int32.toInt_inj.mp (by rw [hk]; decide)
        subst hk2
        refine lv_tableIn (tgt := 44) (off := 33) hx hb d_T_aboutFile_11 (by rw [hk]; decide) (by rw [hk]; decide) (by rw [hk]; rfl) (by decide) ?_
        refine lv_aload_n hx hb d_T_aboutFile_44 rfl (lv_at hl 0 rfl) ?_
        refine f_get S cls_T hK hP 0 rfl 8 (by decide) fl_T_blocks rfl rfl d_T_aboutFile_45 ?_
        refine lv_iload_n hx hb d_T_aboutFile_48 rfl (lv_at hl 1 rfl) ?_
        refine T_bl S hK hP hB (f := f) (by omega) rfl d_T_aboutFile_49 ?_
        exact hret _ _ _ d_T_aboutFile_50 rfl (by first | (simp only [afl, afv, c_5, hcl, ↓reduceIte]; done) | (simp only [afl, afv, c_5, hcl, ↓reduceIte]; rfl) | rfl)
      · have hk2 : y = 1 := Int32.toInt_inj.mp (by rw [hk]; decide)
        subst hk2
        refine lv_tableIn (tgt := 51) (off := 40) hx hb d_T_aboutFile_11 (by rw [hk]; decide) (by rw [hk]; decide) (by rw [hk]; rfl) (by decide) ?_
        refine lv_aload_n hx hb d_T_aboutFile_51 rfl (lv_at hl 0 rfl) ?_
        refine lv_iload_n hx hb d_T_aboutFile_52 rfl (lv_at hl 1 rfl) ?_
        refine lv_aload_n hx hb d_T_aboutFile_53 rfl (lv_at hl 0 rfl) ?_
        refine f_get S cls_T hK hP 0 rfl 8 (by decide) fl_T_blocks rfl rfl d_T_aboutFile_54 ?_
        refine lv_iload_n hx hb d_T_aboutFile_57 rfl (lv_at hl 1 rfl) ?_
        refine T_bl S hK hP hB (f := f) (by omega) rfl d_T_aboutFile_58 ?_
        have hn := (hB f hf).2
        refine T_ro S (c_T_feetOfFirst l D ca t g f (bn g f) (by omega) (by omega)) k_T_106 rfl hP hK rfl rfl hl.1 ⟨Nat.le_of_ble_eq_true rfl, Nat.le_of_ble_eq_true rfl⟩ ⟨Nat.zero_le _, Nat.zero_le _⟩ (Nat.le_of_ble_eq_true rfl) d_T_aboutFile_59 ?_
        exact hret _ _ _ d_T_aboutFile_62 rfl (by first | (simp only [afl, afv, c_5, hcl, ↓reduceIte]; done) | (simp only [afl, afv, c_5, hcl, ↓reduceIte]; rfl) | rfl)
      · have hk2 : y = 2 := Int32.toInt_inj.mp (by rw [hk]; decide)
        subst hk2
        refine lv_tableIn (tgt := 63) (off := 52) hx hb d_T_aboutFile_11 (by rw [hk]; decide) (by rw [hk]; decide) (by rw [hk]; rfl) (by decide) ?_
        refine lv_aload_n hx hb d_T_aboutFile_63 rfl (lv_at hl 0 rfl) ?_
        refine lv_aload_n hx hb d_T_aboutFile_64 rfl (lv_at hl 0 rfl) ?_
        refine f_get S cls_T hK hP 0 rfl 9 (by decide) fl_T_data rfl rfl d_T_aboutFile_65 ?_
        refine lv_iload_n hx hb d_T_aboutFile_68 rfl (lv_at hl 1 rfl) ?_
        refine T_ro S (c_T_totalOf l D ca t g 0 f hB (by omega) (by omega)) k_T_109 rfl hP hK rfl rfl hl.1 ⟨Nat.le_of_ble_eq_true rfl, Nat.le_of_ble_eq_true rfl⟩ ⟨Nat.zero_le _, Nat.zero_le _⟩ (Nat.le_of_ble_eq_true rfl) d_T_aboutFile_69 ?_
        exact hret _ _ _ d_T_aboutFile_72 rfl (by first | (simp only [afl, afv, c_5, hcl, ↓reduceIte]; done) | (simp only [afl, afv, c_5, hcl, ↓reduceIte]; rfl) | rfl)
      · have hk2 : y = 3 := Int32.toInt_inj.mp (by rw [hk]; decide)
        subst hk2
        refine lv_tableIn (tgt := 73) (off := 62) hx hb d_T_aboutFile_11 (by rw [hk]; decide) (by rw [hk]; decide) (by rw [hk]; rfl) (by decide) ?_
        refine lv_aload_n hx hb d_T_aboutFile_73 rfl (lv_at hl 0 rfl) ?_
        refine lv_iload_n hx hb d_T_aboutFile_74 rfl (lv_at hl 1 rfl) ?_
        refine T_ro S (c_T_endInGap l D ca t g f hB (by omega)) k_T_75 rfl hP hK rfl rfl hl.1 ⟨Nat.le_of_ble_eq_true rfl, Nat.le_of_ble_eq_true rfl⟩ ⟨Nat.zero_le _, Nat.zero_le _⟩ (Nat.le_of_ble_eq_true rfl) d_T_aboutFile_75 ?_
        exact hret _ _ _ d_T_aboutFile_78 rfl (by first | (simp only [afl, afv, c_5, hcl, ↓reduceIte]; done) | (simp only [afl, afv, c_5, hcl, ↓reduceIte]; rfl) | rfl)
      · have hk2 : y = 4 := Int32.toInt_inj.mp (by rw [hk]; decide)
        subst hk2
        refine lv_tableIn (tgt := 79) (off := 68) hx hb d_T_aboutFile_11 (by rw [hk]; decide) (by rw [hk]; decide) (by rw [hk]; rfl) (by decide) ?_
        refine lv_aload_n hx hb d_T_aboutFile_79 rfl (lv_at hl 0 rfl) ?_
        refine lv_aload_n hx hb d_T_aboutFile_80 rfl (lv_at hl 0 rfl) ?_
        refine f_get S cls_T hK hP 0 rfl 10 (by decide) fl_T_sums rfl rfl d_T_aboutFile_81 ?_
        refine lv_iload_n hx hb d_T_aboutFile_84 rfl (lv_at hl 1 rfl) ?_
        refine T_ro S (c_T_totalOf l D ca t g 1 f hB (by omega) (by omega)) k_T_109 rfl hP hK rfl rfl hl.1 ⟨Nat.le_of_ble_eq_true rfl, Nat.le_of_ble_eq_true rfl⟩ ⟨Nat.zero_le _, Nat.zero_le _⟩ (Nat.le_of_ble_eq_true rfl) d_T_aboutFile_85 ?_
        exact hret _ _ _ d_T_aboutFile_88 rfl (by first | (simp only [afl, afv, c_5, hcl, ↓reduceIte]; done) | (simp only [afl, afv, c_5, hcl, ↓reduceIte]; rfl) | rfl)
    · have hn_0 : ¬ y = 0 := fun q => hsw (by rw [q]; decide)
      have hn_1 : ¬ y = 1 := fun q => hsw (by rw [q]; decide)
      have hn_2 : ¬ y = 2 := fun q => hsw (by rw [q]; decide)
      have hn_3 : ¬ y = 3 := fun q => hsw (by rw [q]; decide)
      have hn_4 : ¬ y = 4 := fun q => hsw (by rw [q]; decide)
      refine lv_tableOut (tgt := 89) hx hb d_T_aboutFile_11 (by omega) (by decide) ?_
      refine lv_bipush (v := (-2)) hx hb d_T_aboutFile_89 (by decide) ?_
      exact hret _ _ _ d_T_aboutFile_91 rfl (by first | (simp only [afl, afv, c_5, hcl, hn_0, hn_1, hn_2, hn_3, hn_4, ↓reduceIte]; done) | (simp only [afl, afv, c_5, hcl, hn_0, hn_1, hn_2, hn_3, hn_4, ↓reduceIte]; rfl) | rfl)
  · refine lv_iconst (v := (-1)) hx hb d_T_aboutFile_8 (by decide) ?_
    exact hret _ _ _ d_T_aboutFile_9 rfl (by first | (simp only [afl, afv, c_5, ↓reduceIte]; done) | (simp only [afl, afv, c_5, ↓reduceIte]; rfl) | rfl)
set_option maxHeartbeats 4000000 in
set_option maxRecDepth 100000 in
theorem c_T_aboutBlock (l : Launch) (D : va_G) (ca : Nat → ClassId) (t : Nat → Nat) (g : Nat → Int32) (x y z : Int32) (hB : BN g): RO l y_T_aboutBlock b_T_aboutBlock 5 (some .int) 5 115 D ca [.ref (t 0), .int x, .int y, .int z] (tw ca t g) (abl g x y z) := by
  refine RO.mk (ty := .int) rfl rfl (Nat.le_of_ble_eq_true rfl) ?_
  intro p e s m args below meth c Q S hP hK
  obtain ⟨hx, hb, hml, hown, hts⟩ := id S
  intro hret ls hl0
  have hl : lv_has ls 5 [(0, .ref (t 0)), (1, .int x), (2, .int y), (3, .int z)] := hl0
  refine lv_aload_n hx hb d_T_aboutBlock_0 rfl (lv_at hl 0 rfl) ?_
  refine lv_iload_n hx hb d_T_aboutBlock_1 rfl (lv_at hl 1 rfl) ?_
  refine lv_iload_n hx hb d_T_aboutBlock_2 rfl (lv_at hl 2 rfl) ?_
  refine T_ro S (c_T_isBlock l D ca t g x y hB) k_T_85 rfl hP hK rfl rfl hl.1 ⟨Nat.le_of_ble_eq_true rfl, Nat.le_of_ble_eq_true rfl⟩ ⟨Nat.zero_le _, Nat.zero_le _⟩ (Nat.le_of_ble_eq_true rfl) d_T_aboutBlock_3 ?_
  refine lv_if_ne (tgt := 11) hx hb d_T_aboutBlock_6 (by decide) (fun c_6 => ?_) (fun c_6 => ?_)
  · obtain ⟨f, b, hf, hbn, rfl, rfl⟩ := ibk_of c_6 hB
    have hcl : (nI f).toNatClampNeg = f := nI_clamp (by omega)
    have hn20 := (hB f hf).2
    have hcb : (nI b).toNatClampNeg = b := nI_clamp (by omega)
    refine lv_aload_n hx hb d_T_aboutBlock_11 rfl (lv_at hl 0 rfl) ?_
    refine lv_iload_n hx hb d_T_aboutBlock_12 rfl (lv_at hl 1 rfl) ?_
    refine lv_iload_n hx hb d_T_aboutBlock_13 rfl (lv_at hl 2 rfl) ?_
    refine T_ro0 S (c_T_rowOf l D ca (t 0) f b ) k_T_82 rfl hP hK rfl rfl hl.1 ⟨Nat.le_of_ble_eq_true rfl, Nat.le_of_ble_eq_true rfl⟩ ⟨Nat.zero_le _, Nat.zero_le _⟩ (Nat.le_of_ble_eq_true rfl) d_T_aboutBlock_14 ?_
    refine lv_istore (lv' := [(4, .int (nI (f * 20 + b))), (0, .ref (t 0)), (1, .int (nI f)), (2, .int (nI b)), (3, .int z)]) hx hb d_T_aboutBlock_17 hl (by decide) rfl (fun ls hl => ?_)
    refine lv_iload_n hx hb d_T_aboutBlock_19 rfl (lv_at hl 4 rfl) ?_
    by_cases hsw : 0 ≤ z.toInt ∧ z.toInt ≤ 7
    · have hcs : z.toInt = 0 ∨ z.toInt = 1 ∨ z.toInt = 2 ∨ z.toInt = 3 ∨ z.toInt = 4 ∨ z.toInt = 5 ∨ z.toInt = 6 ∨ z.toInt = 7 := by omega
      rcases hcs with hk | hk | hk | hk | hk | hk | hk | hk
      · have hk2 : z = 0 := Int32.toInt_inj.mp (by rw [hk]; decide)
        subst hk2
        refine lv_tableIn (tgt := 68) (off := 48) hx hb d_T_aboutBlock_20 (by rw [hk]; decide) (by rw [hk]; decide) (by rw [hk]; rfl) (by decide) ?_
        refine lv_aload_n hx hb d_T_aboutBlock_68 rfl (lv_at hl 1 rfl) ?_
        refine f_get S cls_T hK hP 0 rfl 9 (by decide) fl_T_data rfl rfl d_T_aboutBlock_69 ?_
        refine lv_iload hx hb d_T_aboutBlock_72 (lv_at hl 0 rfl) ?_
        refine T_ar 0 (by decide) S hK hP (r := f * 20 + b) (by omega) rfl d_T_aboutBlock_74 ?_
        exact hret _ _ _ d_T_aboutBlock_75 rfl (by first | (simp only [abl, abv, c_6, hcl, hcb, ↓reduceIte]; done) | (simp only [abl, abv, c_6, hcl, hcb, ↓reduceIte]; rfl) | rfl)
      · have hk2 : z = 1 := Int32.toInt_inj.mp (by rw [hk]; decide)
        subst hk2
        refine lv_tableIn (tgt := 76) (off := 56) hx hb d_T_aboutBlock_20 (by rw [hk]; decide) (by rw [hk]; decide) (by rw [hk]; rfl) (by decide) ?_
        refine lv_aload_n hx hb d_T_aboutBlock_76 rfl (lv_at hl 1 rfl) ?_
        refine f_get S cls_T hK hP 0 rfl 10 (by decide) fl_T_sums rfl rfl d_T_aboutBlock_77 ?_
        refine lv_iload hx hb d_T_aboutBlock_80 (lv_at hl 0 rfl) ?_
        refine T_ar 1 (by decide) S hK hP (r := f * 20 + b) (by omega) rfl d_T_aboutBlock_82 ?_
        exact hret _ _ _ d_T_aboutBlock_83 rfl (by first | (simp only [abl, abv, c_6, hcl, hcb, ↓reduceIte]; done) | (simp only [abl, abv, c_6, hcl, hcb, ↓reduceIte]; rfl) | rfl)
      · have hk2 : z = 2 := Int32.toInt_inj.mp (by rw [hk]; decide)
        subst hk2
        refine lv_tableIn (tgt := 84) (off := 64) hx hb d_T_aboutBlock_20 (by rw [hk]; decide) (by rw [hk]; decide) (by rw [hk]; rfl) (by decide) ?_
        refine lv_aload_n hx hb d_T_aboutBlock_84 rfl (lv_at hl 1 rfl) ?_
        refine lv_iload hx hb d_T_aboutBlock_85 (lv_at hl 0 rfl) ?_
        refine T_ro S (c_T_wholeLength l D ca t g (f * 20 + b) (by omega)) k_T_113 rfl hP hK rfl rfl hl.1 ⟨Nat.le_of_ble_eq_true rfl, Nat.le_of_ble_eq_true rfl⟩ ⟨Nat.zero_le _, Nat.zero_le _⟩ (Nat.le_of_ble_eq_true rfl) d_T_aboutBlock_87 ?_
        exact hret _ _ _ d_T_aboutBlock_90 rfl (by first | (simp only [abl, abv, c_6, hcl, hcb, ↓reduceIte]; done) | (simp only [abl, abv, c_6, hcl, hcb, ↓reduceIte]; rfl) | rfl)
      · have hk2 : z = 3 := Int32.toInt_inj.mp (by rw [hk]; decide)
        subst hk2
        refine lv_tableIn (tgt := 91) (off := 71) hx hb d_T_aboutBlock_20 (by rw [hk]; decide) (by rw [hk]; decide) (by rw [hk]; rfl) (by decide) ?_
        refine lv_aload_n hx hb d_T_aboutBlock_91 rfl (lv_at hl 1 rfl) ?_
        refine lv_iload_n hx hb d_T_aboutBlock_92 rfl (lv_at hl 2 rfl) ?_
        refine lv_iload_n hx hb d_T_aboutBlock_93 rfl (lv_at hl 3 rfl) ?_
        refine T_ro S (c_T_lowerEnd l D ca t g f b (by omega) (by omega)) k_T_116 rfl hP hK rfl rfl hl.1 ⟨Nat.le_of_ble_eq_true rfl, Nat.le_of_ble_eq_true rfl⟩ ⟨Nat.zero_le _, Nat.zero_le _⟩ (Nat.le_of_ble_eq_true rfl) d_T_aboutBlock_94 ?_
        exact hret _ _ _ d_T_aboutBlock_97 rfl (by first | (simp only [abl, abv, c_6, hcl, hcb, ↓reduceIte]; done) | (simp only [abl, abv, c_6, hcl, hcb, ↓reduceIte]; rfl) | rfl)
      · have hk2 : z = 4 := Int32.toInt_inj.mp (by rw [hk]; decide)
        subst hk2
        refine lv_tableIn (tgt := 98) (off := 78) hx hb d_T_aboutBlock_20 (by rw [hk]; decide) (by rw [hk]; decide) (by rw [hk]; rfl) (by decide) ?_
        refine lv_aload_n hx hb d_T_aboutBlock_98 rfl (lv_at hl 1 rfl) ?_
        refine lv_iload_n hx hb d_T_aboutBlock_99 rfl (lv_at hl 2 rfl) ?_
        refine lv_iload_n hx hb d_T_aboutBlock_100 rfl (lv_at hl 3 rfl) ?_
        refine T_ro S (c_T_lowerEnd l D ca t g f b (by omega) (by omega)) k_T_116 rfl hP hK rfl rfl hl.1 ⟨Nat.le_of_ble_eq_true rfl, Nat.le_of_ble_eq_true rfl⟩ ⟨Nat.zero_le _, Nat.zero_le _⟩ (Nat.le_of_ble_eq_true rfl) d_T_aboutBlock_101 ?_
        refine lv_aload_n hx hb d_T_aboutBlock_104 rfl (lv_at hl 1 rfl) ?_
        refine lv_iload hx hb d_T_aboutBlock_105 (lv_at hl 0 rfl) ?_
        refine T_ro S (c_T_wholeLength l D ca t g (f * 20 + b) (by omega)) k_T_113 rfl hP hK rfl rfl hl.1 ⟨Nat.le_of_ble_eq_true rfl, Nat.le_of_ble_eq_true rfl⟩ ⟨Nat.zero_le _, Nat.zero_le _⟩ (Nat.le_of_ble_eq_true rfl) d_T_aboutBlock_107 ?_
        refine lv_iadd hx hb d_T_aboutBlock_110 ?_
        exact hret _ _ _ d_T_aboutBlock_111 rfl (by first | (simp only [abl, abv, c_6, hcl, hcb, ↓reduceIte]; done) | (simp only [abl, abv, c_6, hcl, hcb, ↓reduceIte]; rfl) | rfl)
      · have hk2 : z = 5 := Int32.toInt_inj.mp (by rw [hk]; decide)
        subst hk2
        refine lv_tableIn (tgt := 112) (off := 92) hx hb d_T_aboutBlock_20 (by rw [hk]; decide) (by rw [hk]; decide) (by rw [hk]; rfl) (by decide) ?_
        refine lv_aload_n hx hb d_T_aboutBlock_112 rfl (lv_at hl 1 rfl) ?_
        refine f_get S cls_T hK hP 0 rfl 12 (by decide) fl_T_timesRead rfl rfl d_T_aboutBlock_113 ?_
        refine lv_iload hx hb d_T_aboutBlock_116 (lv_at hl 0 rfl) ?_
        refine T_ar 3 (by decide) S hK hP (r := f * 20 + b) (by omega) rfl d_T_aboutBlock_118 ?_
        exact hret _ _ _ d_T_aboutBlock_119 rfl (by first | (simp only [abl, abv, c_6, hcl, hcb, ↓reduceIte]; done) | (simp only [abl, abv, c_6, hcl, hcb, ↓reduceIte]; rfl) | rfl)
      · have hk2 : z = 6 := Int32.toInt_inj.mp (by rw [hk]; decide)
        subst hk2
        refine lv_tableIn (tgt := 120) (off := 100) hx hb d_T_aboutBlock_20 (by rw [hk]; decide) (by rw [hk]; decide) (by rw [hk]; rfl) (by decide) ?_
        refine lv_aload_n hx hb d_T_aboutBlock_120 rfl (lv_at hl 1 rfl) ?_
        refine lv_iload_n hx hb d_T_aboutBlock_121 rfl (lv_at hl 2 rfl) ?_
        refine lv_iload_n hx hb d_T_aboutBlock_122 rfl (lv_at hl 3 rfl) ?_
        refine lv_iconst (v := 0) hx hb d_T_aboutBlock_123 (by decide) ?_
        refine T_ro S (c_T_travelToRead l D ca t g f b 0 (by omega) (by omega) (by omega)) k_T_119 rfl hP hK rfl rfl hl.1 ⟨Nat.le_of_ble_eq_true rfl, Nat.le_of_ble_eq_true rfl⟩ ⟨Nat.zero_le _, Nat.zero_le _⟩ (Nat.le_of_ble_eq_true rfl) d_T_aboutBlock_124 ?_
        exact hret _ _ _ d_T_aboutBlock_127 rfl (by first | (simp only [abl, abv, c_6, hcl, hcb, ↓reduceIte]; done) | (simp only [abl, abv, c_6, hcl, hcb, ↓reduceIte]; rfl) | rfl)
      · have hk2 : z = 7 := Int32.toInt_inj.mp (by rw [hk]; decide)
        subst hk2
        refine lv_tableIn (tgt := 128) (off := 108) hx hb d_T_aboutBlock_20 (by rw [hk]; decide) (by rw [hk]; decide) (by rw [hk]; rfl) (by decide) ?_
        refine lv_aload_n hx hb d_T_aboutBlock_128 rfl (lv_at hl 1 rfl) ?_
        refine lv_iload_n hx hb d_T_aboutBlock_129 rfl (lv_at hl 2 rfl) ?_
        refine lv_iload_n hx hb d_T_aboutBlock_130 rfl (lv_at hl 3 rfl) ?_
        refine lv_iconst (v := 1) hx hb d_T_aboutBlock_131 (by decide) ?_
        refine T_ro S (c_T_travelToRead l D ca t g f b 1 (by omega) (by omega) (by omega)) k_T_119 rfl hP hK rfl rfl hl.1 ⟨Nat.le_of_ble_eq_true rfl, Nat.le_of_ble_eq_true rfl⟩ ⟨Nat.zero_le _, Nat.zero_le _⟩ (Nat.le_of_ble_eq_true rfl) d_T_aboutBlock_132 ?_
        exact hret _ _ _ d_T_aboutBlock_135 rfl (by first | (simp only [abl, abv, c_6, hcl, hcb, ↓reduceIte]; done) | (simp only [abl, abv, c_6, hcl, hcb, ↓reduceIte]; rfl) | rfl)
    · have hn_0 : ¬ z = 0 := fun q => hsw (by rw [q]; decide)
      have hn_1 : ¬ z = 1 := fun q => hsw (by rw [q]; decide)
      have hn_2 : ¬ z = 2 := fun q => hsw (by rw [q]; decide)
      have hn_3 : ¬ z = 3 := fun q => hsw (by rw [q]; decide)
      have hn_4 : ¬ z = 4 := fun q => hsw (by rw [q]; decide)
      have hn_5 : ¬ z = 5 := fun q => hsw (by rw [q]; decide)
      have hn_6 : ¬ z = 6 := fun q => hsw (by rw [q]; decide)
      have hn_7 : ¬ z = 7 := fun q => hsw (by rw [q]; decide)
      refine lv_tableOut (tgt := 136) hx hb d_T_aboutBlock_20 (by omega) (by decide) ?_
      refine lv_bipush (v := (-2)) hx hb d_T_aboutBlock_136 (by decide) ?_
      exact hret _ _ _ d_T_aboutBlock_138 rfl (by first | (simp only [abl, abv, c_6, hcl, hcb, hn_0, hn_1, hn_2, hn_3, hn_4, hn_5, hn_6, hn_7, ↓reduceIte]; done) | (simp only [abl, abv, c_6, hcl, hcb, hn_0, hn_1, hn_2, hn_3, hn_4, hn_5, hn_6, hn_7, ↓reduceIte]; rfl) | rfl)
  · refine lv_iconst (v := (-1)) hx hb d_T_aboutBlock_9 (by decide) ?_
    exact hret _ _ _ d_T_aboutBlock_10 rfl (by first | (simp only [abl, abv, c_6, ↓reduceIte]; done) | (simp only [abl, abv, c_6, ↓reduceIte]; rfl) | rfl)
set_option maxHeartbeats 4000000 in
set_option maxRecDepth 100000 in
theorem c_T_rowWithData (l : Launch) (D : va_G) (ca : Nat → ClassId) (t : Nat → Nat) (g : Nat → Int32) (x y : Int32) (hB : BN g): RO l y_T_rowWithData b_T_rowWithData 7 (some .int) 3 68 D ca [.ref (t 0), .int x, .int y] (tw ca t g) (rwd g x y) := by
  refine RO.mk (ty := .int) rfl rfl (Nat.le_of_ble_eq_true rfl) ?_
  intro p e s m args below meth c Q S hP hK
  obtain ⟨hx, hb, hml, hown, hts⟩ := id S
  intro hret ls hl0
  have hl : lv_has ls 7 [(0, .ref (t 0)), (1, .int x), (2, .int y)] := hl0
  refine lv_iconst (v := 0) hx hb d_T_rowWithData_0 (by decide) ?_
  refine lv_istore_n (lv' := [(3, .int 0), (0, .ref (t 0)), (1, .int x), (2, .int y)]) hx hb d_T_rowWithData_1 rfl hl (by decide) rfl (fun ls hl => ?_)
  suffices lp : ∀ (k i : Nat), 2 - i < k → i ≤ 2 → rwd g x y = rwq g x y (2 - i) i → ∀ ls : Array Slot, lv_has ls 7 [(3, .int (nI i)), (0, .ref (t 0)), (1, .int x), (2, .int y)] → W p l e (rm 3 68 0 0) s m args below meth c s.heap [] 0 0 Q (F0 m 2 ls []) from lp 3 0 (by omega) (by omega) rfl _ (lv_sub hl [0, 1, 2, 3] rfl)
  intro k
  induction k with
  | zero => intro i hi; omega
  | succ k ih =>
    intro i hi hin hE ls hl
    refine lv_iload_n hx hb d_T_rowWithData_2 rfl (lv_at hl 0 rfl) ?_
    refine lv_iconst (v := 2) hx hb d_T_rowWithData_3 (by decide) ?_
    refine lv_icmp_ge (tgt := 82) hx hb d_T_rowWithData_4 (by decide) (fun c_4 => ?_) (fun c_4 => ?_)
    · have e_4 : 2 ≤ i := le_of_nI (by omega) (by omega) (show nI 2 ≤ nI i from c_4)
      obtain rfl : i = 2 := by omega
      refine lv_iconst (v := (-1)) hx hb d_T_rowWithData_82 (by decide) ?_
      exact hret _ _ _ d_T_rowWithData_83 rfl (by rw [hE]; rfl)
    · have e_4 : i < 2 := nle_lt (by omega) (by omega) (show ¬ nI 2 ≤ nI i from c_4)
      have hn := (hB i e_4).2
      have hE0 : rwd g x y = (rwb g x y i (bn g i - 0) 0).elim (rwq g x y (1 - i) (i + 1)) nI := by
        rw [hE, show 2 - i = (1 - i) + 1 by omega]; rfl
      refine lv_iconst (v := 0) hx hb d_T_rowWithData_7 (by decide) ?_
      refine lv_istore (lv' := [(4, .int 0), (3, .int (nI i)), (0, .ref (t 0)), (1, .int x), (2, .int y)]) hx hb d_T_rowWithData_8 hl (by decide) rfl (fun ls hl => ?_)
      suffices lp2 : ∀ (k2 j : Nat), bn g i - j < k2 → j ≤ bn g i → rwd g x y = (rwb g x y i (bn g i - j) j).elim (rwq g x y (1 - i) (i + 1)) nI → ∀ ls : Array Slot, lv_has ls 7 [(4, .int (nI j)), (3, .int (nI i)), (0, .ref (t 0)), (1, .int x), (2, .int y)] → W p l e (rm 3 68 0 0) s m args below meth c s.heap [] 0 0 Q (F0 m 10 ls []) from lp2 (bn g i + 1) 0 (by omega) (by omega) hE0 _ (lv_sub hl [0, 1, 2, 3, 4] rfl)
      intro k2
      induction k2 with
      | zero => intro j hj; omega
      | succ k2 ih2 =>
        intro j hj hjn hE2 ls hl
        refine lv_iload hx hb d_T_rowWithData_10 (lv_at hl 0 rfl) ?_
        refine lv_aload_n hx hb d_T_rowWithData_12 rfl (lv_at hl 2 rfl) ?_
        refine f_get S cls_T hK hP 0 rfl 8 (by decide) fl_T_blocks rfl rfl d_T_rowWithData_13 ?_
        refine lv_iload_n hx hb d_T_rowWithData_16 rfl (lv_at hl 1 rfl) ?_
        refine T_bl S hK hP hB (f := i) (by omega) rfl d_T_rowWithData_17 ?_
        refine lv_icmp_ge (tgt := 76) hx hb d_T_rowWithData_18 (by decide) (fun c_18 => ?_) (fun c_18 => ?_)
        · have e_18 : bn g i ≤ j := le_of_nI (by omega) (by omega) c_18
          obtain rfl : j = bn g i := by omega
          have hE4 : rwd g x y = rwq g x y (2 - (i + 1)) (i + 1) := by
            rw [hE2, Nat.sub_self, show 2 - (i + 1) = 1 - i by omega]; rfl
          refine lv_iinc (v := nI (i + 1)) (lv' := [(3, .int (nI (i + 1))), (4, .int (nI (bn g i))), (0, .ref (t 0)), (1, .int x), (2, .int y)]) hx hb d_T_rowWithData_76 hl (k := 1) rfl (nI_1 i) (by decide) rfl (fun ls hl => ?_)
          refine lv_goto (tgt := 2) hx hb d_T_rowWithData_79 (by decide) ?_
          exact ih (i + 1) (by omega) (by omega) hE4 _ (lv_sub hl [0, 2, 3, 4] rfl)
        · have e_18 : j < bn g i := nle_lt (by omega) (by omega) c_18
          refine lv_aload_n hx hb d_T_rowWithData_21 rfl (lv_at hl 2 rfl) ?_
          refine lv_iload_n hx hb d_T_rowWithData_22 rfl (lv_at hl 1 rfl) ?_
          refine lv_iload hx hb d_T_rowWithData_23 (lv_at hl 0 rfl) ?_
          refine T_ro0 S (c_T_rowOf l D ca (t 0) i j ) k_T_82 rfl hP hK rfl rfl hl.1 ⟨Nat.le_of_ble_eq_true rfl, Nat.le_of_ble_eq_true rfl⟩ ⟨Nat.zero_le _, Nat.zero_le _⟩ (Nat.le_of_ble_eq_true rfl) d_T_rowWithData_25 ?_
          refine lv_istore (lv' := [(5, .int (nI (i * 20 + j))), (4, .int (nI j)), (3, .int (nI i)), (0, .ref (t 0)), (1, .int x), (2, .int y)]) hx hb d_T_rowWithData_28 hl (by decide) rfl (fun ls hl => ?_)
          refine lv_aload_n hx hb d_T_rowWithData_30 rfl (lv_at hl 3 rfl) ?_
          refine lv_iload_n hx hb d_T_rowWithData_31 rfl (lv_at hl 2 rfl) ?_
          refine lv_iload hx hb d_T_rowWithData_32 (lv_at hl 1 rfl) ?_
          refine T_ro S (c_T_lowerEnd l D ca t g i j (by omega) (by omega)) k_T_116 rfl hP hK rfl rfl hl.1 ⟨Nat.le_of_ble_eq_true rfl, Nat.le_of_ble_eq_true rfl⟩ ⟨Nat.zero_le _, Nat.zero_le _⟩ (Nat.le_of_ble_eq_true rfl) d_T_rowWithData_34 ?_
          refine lv_aload_n hx hb d_T_rowWithData_37 rfl (lv_at hl 3 rfl) ?_
          refine f_get S cls_T hK hP 0 rfl 11 (by decide) fl_T_marks rfl rfl d_T_rowWithData_38 ?_
          refine lv_iload hx hb d_T_rowWithData_41 (lv_at hl 0 rfl) ?_
          refine T_ar 2 (by decide) S hK hP (r := i * 20 + j) (by omega) rfl d_T_rowWithData_43 ?_
          refine lv_iadd hx hb d_T_rowWithData_44 ?_
          refine lv_istore (lv' := [(6, .int (fd g i j)), (5, .int (nI (i * 20 + j))), (4, .int (nI j)), (3, .int (nI i)), (0, .ref (t 0)), (1, .int x), (2, .int y)]) hx hb d_T_rowWithData_45 hl (by decide) rfl (fun ls hl => ?_)
          refine lv_iload_n hx hb d_T_rowWithData_47 rfl (lv_at hl 5 rfl) ?_
          refine lv_iload hx hb d_T_rowWithData_48 (lv_at hl 0 rfl) ?_
          refine lv_icmp_lt (tgt := 70) hx hb d_T_rowWithData_50 (by decide) (fun c_50 => ?_) (fun c_50 => ?_)
          · have hE3 : rwd g x y = (rwb g x y i (bn g i - (j + 1)) (j + 1)).elim (rwq g x y (1 - i) (i + 1)) nI := by
              rw [hE2, show bn g i - j = (bn g i - (j + 1)) + 1 by omega]
              simp only [rwb, c_50, ↓reduceIte]
            refine lv_iinc (v := nI (j + 1)) (lv' := [(4, .int (nI (j + 1))), (6, .int (fd g i j)), (5, .int (nI (i * 20 + j))), (3, .int (nI i)), (0, .ref (t 0)), (1, .int x), (2, .int y)]) hx hb d_T_rowWithData_70 hl (k := 2) rfl (nI_1 j) (by decide) rfl (fun ls hl => ?_)
            refine lv_goto (tgt := 10) hx hb d_T_rowWithData_73 (by decide) ?_
            exact ih2 (j + 1) (by omega) (by omega) hE3 _ (lv_sub hl [0, 3, 4, 5, 6] rfl)
          · refine lv_iload_n hx hb d_T_rowWithData_53 rfl (lv_at hl 6 rfl) ?_
            refine lv_iload hx hb d_T_rowWithData_54 (lv_at hl 0 rfl) ?_
            refine lv_aload_n hx hb d_T_rowWithData_56 rfl (lv_at hl 4 rfl) ?_
            refine f_get S cls_T hK hP 0 rfl 9 (by decide) fl_T_data rfl rfl d_T_rowWithData_57 ?_
            refine lv_iload hx hb d_T_rowWithData_60 (lv_at hl 1 rfl) ?_
            refine T_ar 0 (by decide) S hK hP (r := i * 20 + j) (by omega) rfl d_T_rowWithData_62 ?_
            refine lv_iadd hx hb d_T_rowWithData_63 ?_
            refine lv_icmp_gt (tgt := 70) hx hb d_T_rowWithData_64 (by decide) (fun c_64 => ?_) (fun c_64 => ?_)
            · have hE3 : rwd g x y = (rwb g x y i (bn g i - (j + 1)) (j + 1)).elim (rwq g x y (1 - i) (i + 1)) nI := by
                rw [hE2, show bn g i - j = (bn g i - (j + 1)) + 1 by omega]
                simp only [rwb, c_50, c_64, ↓reduceIte]
              refine lv_iinc (v := nI (j + 1)) (lv' := [(4, .int (nI (j + 1))), (6, .int (fd g i j)), (5, .int (nI (i * 20 + j))), (3, .int (nI i)), (0, .ref (t 0)), (1, .int x), (2, .int y)]) hx hb d_T_rowWithData_70 hl (k := 2) rfl (nI_1 j) (by decide) rfl (fun ls hl => ?_)
              refine lv_goto (tgt := 10) hx hb d_T_rowWithData_73 (by decide) ?_
              exact ih2 (j + 1) (by omega) (by omega) hE3 _ (lv_sub hl [0, 3, 4, 5, 6] rfl)
            · refine lv_iload hx hb d_T_rowWithData_67 (lv_at hl 1 rfl) ?_
              exact hret _ _ _ d_T_rowWithData_69 rfl (by
                rw [hE2, show bn g i - j = (bn g i - (j + 1)) + 1 by omega]
                simp only [rwb, c_50, c_64, ↓reduceIte]
                rfl)
set_option maxHeartbeats 4000000 in
set_option maxRecDepth 100000 in
theorem c_T_kindOfFoot (l : Launch) (D : va_G) (ca : Nat → ClassId) (t : Nat → Nat) (g : Nat → Int32) (x : Int32) (hB : BN g): RO l y_T_kindOfFoot b_T_kindOfFoot 3 (some .int) 4 94 D ca [.ref (t 0), .int x] (tw ca t g) (kof g x) := by
  refine RO.mk (ty := .int) rfl rfl (Nat.le_of_ble_eq_true rfl) ?_
  intro p e s m args below meth c Q S hP hK
  obtain ⟨hx, hb, hml, hown, hts⟩ := id S
  intro hret ls hl0
  have hl : lv_has ls 3 [(0, .ref (t 0)), (1, .int x)] := hl0
  refine lv_iload_n hx hb d_T_kindOfFoot_0 rfl (lv_at hl 1 rfl) ?_
  refine lv_if_lt (tgt := 12) hx hb d_T_kindOfFoot_1 (by decide) (fun c_1 => ?_) (fun c_1 => ?_)
  · refine lv_bipush (v := (-2)) hx hb d_T_kindOfFoot_12 (by decide) ?_
    exact hret _ _ _ d_T_kindOfFoot_14 rfl (by first | (simp only [kof, c_1, ↓reduceIte]; done) | (simp only [kof, c_1, ↓reduceIte]; rfl) | rfl)
  · refine lv_iload_n hx hb d_T_kindOfFoot_4 rfl (lv_at hl 1 rfl) ?_
    refine lv_aload_n hx hb d_T_kindOfFoot_5 rfl (lv_at hl 0 rfl) ?_
    refine f_get S cls_T hK hP 0 rfl 0 (by decide) fl_T_feet rfl rfl d_T_kindOfFoot_6 ?_
    refine lv_icmp_lt (tgt := 15) hx hb d_T_kindOfFoot_9 (by decide) (fun c_9 => ?_) (fun c_9 => ?_)
    · refine lv_aload_n hx hb d_T_kindOfFoot_15 rfl (lv_at hl 0 rfl) ?_
      refine lv_iload_n hx hb d_T_kindOfFoot_16 rfl (lv_at hl 1 rfl) ?_
      refine lv_iload_n hx hb d_T_kindOfFoot_17 rfl (lv_at hl 1 rfl) ?_
      refine lv_iconst (v := 1) hx hb d_T_kindOfFoot_18 (by decide) ?_
      refine lv_iadd hx hb d_T_kindOfFoot_19 ?_
      refine T_ro S (c_T_isInGap l D ca t g x (x + 1) hB) k_T_96 rfl hP hK rfl rfl hl.1 ⟨Nat.le_of_ble_eq_true rfl, Nat.le_of_ble_eq_true rfl⟩ ⟨Nat.zero_le _, Nat.zero_le _⟩ (Nat.le_of_ble_eq_true rfl) d_T_kindOfFoot_20 ?_
      refine lv_if_eq (tgt := 28) hx hb d_T_kindOfFoot_23 (by decide) (fun c_23 => ?_) (fun c_23 => ?_)
      · refine lv_iload_n hx hb d_T_kindOfFoot_28 rfl (lv_at hl 1 rfl) ?_
        refine lv_aload_n hx hb d_T_kindOfFoot_29 rfl (lv_at hl 0 rfl) ?_
        refine lv_iconst (v := 0) hx hb d_T_kindOfFoot_30 (by decide) ?_
        refine T_ro S (c_T_endInGap l D ca t g 0 hB (by omega)) k_T_75 rfl hP hK rfl rfl hl.1 ⟨Nat.le_of_ble_eq_true rfl, Nat.le_of_ble_eq_true rfl⟩ ⟨Nat.zero_le _, Nat.zero_le _⟩ (Nat.le_of_ble_eq_true rfl) d_T_kindOfFoot_31 ?_
        refine lv_icmp_ge (tgt := 41) hx hb d_T_kindOfFoot_34 (by decide) (fun c_34 => ?_) (fun c_34 => ?_)
        · refine lv_bipush (v := 11) hx hb d_T_kindOfFoot_41 (by decide) ?_
          refine lv_istore_n (lv' := [(2, .int 11), (0, .ref (t 0)), (1, .int x)]) hx hb d_T_kindOfFoot_43 rfl hl (by decide) rfl (fun ls hl => ?_)
          refine lv_aload_n hx hb d_T_kindOfFoot_44 rfl (lv_at hl 1 rfl) ?_
          refine lv_iload_n hx hb d_T_kindOfFoot_45 rfl (lv_at hl 2 rfl) ?_
          refine lv_iload_n hx hb d_T_kindOfFoot_46 rfl (lv_at hl 2 rfl) ?_
          refine lv_iconst (v := 1) hx hb d_T_kindOfFoot_47 (by decide) ?_
          refine lv_iadd hx hb d_T_kindOfFoot_48 ?_
          refine T_ro S (c_T_rowWithData l D ca t g x (x + 1) hB) k_T_93 rfl hP hK rfl rfl hl.1 ⟨Nat.le_of_ble_eq_true rfl, Nat.le_of_ble_eq_true rfl⟩ ⟨Nat.zero_le _, Nat.zero_le _⟩ (Nat.le_of_ble_eq_true rfl) d_T_kindOfFoot_49 ?_
          refine lv_if_ge (tgt := 59) hx hb d_T_kindOfFoot_52 (by decide) (fun c_52 => ?_) (fun c_52 => ?_)
          · refine lv_iload_n hx hb d_T_kindOfFoot_59 rfl (lv_at hl 0 rfl) ?_
            refine lv_iconst (v := 1) hx hb d_T_kindOfFoot_60 (by decide) ?_
            refine lv_iadd hx hb d_T_kindOfFoot_61 ?_
            refine lv_tope (z := 12) (by decide) ?_
            exact hret _ _ _ d_T_kindOfFoot_62 rfl (by first | (simp only [kof, c_1, c_9, c_23, c_34, c_52, ↓reduceIte]; done) | (simp only [kof, c_1, c_9, c_23, c_34, c_52, ↓reduceIte]; rfl) | rfl)
          · refine lv_iload_n hx hb d_T_kindOfFoot_55 rfl (lv_at hl 0 rfl) ?_
            refine lv_goto (tgt := 62) hx hb d_T_kindOfFoot_56 (by decide) ?_
            exact hret _ _ _ d_T_kindOfFoot_62 rfl (by first | (simp only [kof, c_1, c_9, c_23, c_34, c_52, ↓reduceIte]; done) | (simp only [kof, c_1, c_9, c_23, c_34, c_52, ↓reduceIte]; rfl) | rfl)
        · refine lv_iconst (v := 1) hx hb d_T_kindOfFoot_37 (by decide) ?_
          refine lv_goto (tgt := 43) hx hb d_T_kindOfFoot_38 (by decide) ?_
          refine lv_istore_n (lv' := [(2, .int 1), (0, .ref (t 0)), (1, .int x)]) hx hb d_T_kindOfFoot_43 rfl hl (by decide) rfl (fun ls hl => ?_)
          refine lv_aload_n hx hb d_T_kindOfFoot_44 rfl (lv_at hl 1 rfl) ?_
          refine lv_iload_n hx hb d_T_kindOfFoot_45 rfl (lv_at hl 2 rfl) ?_
          refine lv_iload_n hx hb d_T_kindOfFoot_46 rfl (lv_at hl 2 rfl) ?_
          refine lv_iconst (v := 1) hx hb d_T_kindOfFoot_47 (by decide) ?_
          refine lv_iadd hx hb d_T_kindOfFoot_48 ?_
          refine T_ro S (c_T_rowWithData l D ca t g x (x + 1) hB) k_T_93 rfl hP hK rfl rfl hl.1 ⟨Nat.le_of_ble_eq_true rfl, Nat.le_of_ble_eq_true rfl⟩ ⟨Nat.zero_le _, Nat.zero_le _⟩ (Nat.le_of_ble_eq_true rfl) d_T_kindOfFoot_49 ?_
          refine lv_if_ge (tgt := 59) hx hb d_T_kindOfFoot_52 (by decide) (fun c_52 => ?_) (fun c_52 => ?_)
          · refine lv_iload_n hx hb d_T_kindOfFoot_59 rfl (lv_at hl 0 rfl) ?_
            refine lv_iconst (v := 1) hx hb d_T_kindOfFoot_60 (by decide) ?_
            refine lv_iadd hx hb d_T_kindOfFoot_61 ?_
            refine lv_tope (z := 2) (by decide) ?_
            exact hret _ _ _ d_T_kindOfFoot_62 rfl (by first | (simp only [kof, c_1, c_9, c_23, c_34, c_52, ↓reduceIte]; done) | (simp only [kof, c_1, c_9, c_23, c_34, c_52, ↓reduceIte]; rfl) | rfl)
          · refine lv_iload_n hx hb d_T_kindOfFoot_55 rfl (lv_at hl 0 rfl) ?_
            refine lv_goto (tgt := 62) hx hb d_T_kindOfFoot_56 (by decide) ?_
            exact hret _ _ _ d_T_kindOfFoot_62 rfl (by first | (simp only [kof, c_1, c_9, c_23, c_34, c_52, ↓reduceIte]; done) | (simp only [kof, c_1, c_9, c_23, c_34, c_52, ↓reduceIte]; rfl) | rfl)
      · refine lv_iconst (v := 0) hx hb d_T_kindOfFoot_26 (by decide) ?_
        exact hret _ _ _ d_T_kindOfFoot_27 rfl (by first | (simp only [kof, c_1, c_9, c_23, ↓reduceIte]; done) | (simp only [kof, c_1, c_9, c_23, ↓reduceIte]; rfl) | rfl)
    · refine lv_bipush (v := (-2)) hx hb d_T_kindOfFoot_12 (by decide) ?_
      exact hret _ _ _ d_T_kindOfFoot_14 rfl (by first | (simp only [kof, c_1, c_9, ↓reduceIte]; done) | (simp only [kof, c_1, c_9, ↓reduceIte]; rfl) | rfl)
set_option maxHeartbeats 4000000 in
set_option maxRecDepth 100000 in
theorem c_T_greatestData (l : Launch) (D : va_G) (ca : Nat → ClassId) (t : Nat → Nat) (g : Nat → Int32) (x : Int32) (hB : BN g): RO l y_T_greatestData b_T_greatestData 2 (some .int) 3 66 D ca [.ref (t 0), .int x] (tw ca t g) (grd g x) := by
  refine RO.mk (ty := .int) rfl rfl (Nat.le_of_ble_eq_true rfl) ?_
  intro p e s m args below meth c Q S hP hK
  obtain ⟨hx, hb, hml, hown, hts⟩ := id S
  intro hret ls hl0
  have hl : lv_has ls 2 [(0, .ref (t 0)), (1, .int x)] := hl0
  refine lv_aload_n hx hb d_T_greatestData_0 rfl (lv_at hl 0 rfl) ?_
  refine lv_iload_n hx hb d_T_greatestData_1 rfl (lv_at hl 1 rfl) ?_
  refine T_ro0 S (c_T_isFile l D ca (t 0) x ) k_T_71 rfl hP hK rfl rfl hl.1 ⟨Nat.le_of_ble_eq_true rfl, Nat.le_of_ble_eq_true rfl⟩ ⟨Nat.zero_le _, Nat.zero_le _⟩ (Nat.le_of_ble_eq_true rfl) d_T_greatestData_2 ?_
  refine lv_if_ne (tgt := 10) hx hb d_T_greatestData_5 (by decide) (fun c_5 => ?_) (fun c_5 => ?_)
  · obtain ⟨f, hf, rfl⟩ := isf_of c_5
    have hcl : (nI f).toNatClampNeg = f := nI_clamp (by omega)
    refine lv_aload_n hx hb d_T_greatestData_10 rfl (lv_at hl 0 rfl) ?_
    refine f_get S cls_T hK hP 0 rfl 8 (by decide) fl_T_blocks rfl rfl d_T_greatestData_11 ?_
    refine lv_iload_n hx hb d_T_greatestData_14 rfl (lv_at hl 1 rfl) ?_
    refine T_bl S hK hP hB (f := f) (by omega) rfl d_T_greatestData_15 ?_
    refine lv_bipush (v := 20) hx hb d_T_greatestData_16 (by decide) ?_
    refine lv_icmp_lt (tgt := 23) hx hb d_T_greatestData_18 (by decide) (fun c_18 => ?_) (fun c_18 => ?_)
    · refine lv_iconst (v := 0) hx hb d_T_greatestData_23 (by decide) ?_
      refine lv_bipush (v := 99) hx hb d_T_greatestData_24 (by decide) ?_
      refine lv_aload_n hx hb d_T_greatestData_26 rfl (lv_at hl 0 rfl) ?_
      refine T_ro S (c_T_gap l D ca t g  hB) k_T_68 rfl hP hK rfl rfl hl.1 ⟨Nat.le_of_ble_eq_true rfl, Nat.le_of_ble_eq_true rfl⟩ ⟨Nat.zero_le _, Nat.zero_le _⟩ (Nat.le_of_ble_eq_true rfl) d_T_greatestData_27 ?_
      refine lv_aload_n hx hb d_T_greatestData_30 rfl (lv_at hl 0 rfl) ?_
      refine f_get S cls_T hK hP 0 rfl 1 (by decide) fl_T_leastGap rfl rfl d_T_greatestData_31 ?_
      refine lv_isub hx hb d_T_greatestData_34 ?_
      refine lv_iconst (v := 2) hx hb d_T_greatestData_35 (by decide) ?_
      refine lv_aload_n hx hb d_T_greatestData_36 rfl (lv_at hl 0 rfl) ?_
      refine f_get S cls_T hK hP 0 rfl 2 (by decide) fl_T_mark rfl rfl d_T_greatestData_37 ?_
      refine lv_imul hx hb d_T_greatestData_40 ?_
      refine lv_isub hx hb d_T_greatestData_41 ?_
      refine va_mmin hx hb (hml.trans hl.1.symm) hown (hts _ kx_T_62) (hts _ xs_Math_min) (hts _ in_java_lang_Math) (hts _ xc_Math_min) (Nat.le_of_ble_eq_true rfl) (Nat.le_of_ble_eq_true rfl) (Nat.zero_le _) (Nat.zero_le _) d_T_greatestData_42 ?_
      refine lv_tope (z := mn2 99 (((gp g) - (g 1)) - (2 * (g 2)))) rfl ?_
      refine va_mmax hx hb (hml.trans hl.1.symm) hown (hts _ kx_T_99) (hts _ xs_Math_max) (hts _ in_java_lang_Math) (hts _ xc_Math_max) (Nat.le_of_ble_eq_true rfl) (Nat.le_of_ble_eq_true rfl) (Nat.zero_le _) (Nat.zero_le _) d_T_greatestData_45 ?_
      refine lv_tope (z := mx2 0 (mn2 99 (((gp g) - (g 1)) - (2 * (g 2))))) rfl ?_
      exact hret _ _ _ d_T_greatestData_48 rfl (by first | (simp only [grd, c_5, hcl, c_18, ↓reduceIte]; done) | (simp only [grd, c_5, hcl, c_18, ↓reduceIte]; rfl) | rfl)
    · refine lv_iconst (v := 0) hx hb d_T_greatestData_21 (by decide) ?_
      exact hret _ _ _ d_T_greatestData_22 rfl (by first | (simp only [grd, c_5, hcl, c_18, ↓reduceIte]; done) | (simp only [grd, c_5, hcl, c_18, ↓reduceIte]; rfl) | rfl)
  · refine lv_iconst (v := (-1)) hx hb d_T_greatestData_8 (by decide) ?_
    exact hret _ _ _ d_T_greatestData_9 rfl (by first | (simp only [grd, c_5, ↓reduceIte]; done) | (simp only [grd, c_5, ↓reduceIte]; rfl) | rfl)
set_option maxHeartbeats 4000000 in
set_option maxRecDepth 100000 in
theorem c_T_blocksThatFit (l : Launch) (D : va_G) (ca : Nat → ClassId) (t : Nat → Nat) (g : Nat → Int32) (x : Int32) (hB : BN g): RO l y_T_blocksThatFit b_T_blocksThatFit 3 (some .int) 3 66 D ca [.ref (t 0), .int x] (tw ca t g) (btf g x) := by
  refine RO.mk (ty := .int) rfl rfl (Nat.le_of_ble_eq_true rfl) ?_
  intro p e s m args below meth c Q S hP hK
  obtain ⟨hx, hb, hml, hown, hts⟩ := id S
  intro hret ls hl0
  have hl : lv_has ls 3 [(0, .ref (t 0)), (1, .int x)] := hl0
  refine lv_iload_n hx hb d_T_blocksThatFit_0 rfl (lv_at hl 1 rfl) ?_
  refine lv_iconst (v := 1) hx hb d_T_blocksThatFit_1 (by decide) ?_
  refine lv_icmp_lt (tgt := 11) hx hb d_T_blocksThatFit_2 (by decide) (fun c_2 => ?_) (fun c_2 => ?_)
  · refine lv_bipush (v := (-2)) hx hb d_T_blocksThatFit_11 (by decide) ?_
    exact hret _ _ _ d_T_blocksThatFit_13 rfl (by first | (simp only [btf, c_2, ↓reduceIte]; done) | (simp only [btf, c_2, ↓reduceIte]; rfl) | rfl)
  · refine lv_iload_n hx hb d_T_blocksThatFit_5 rfl (lv_at hl 1 rfl) ?_
    refine lv_bipush (v := 99) hx hb d_T_blocksThatFit_6 (by decide) ?_
    refine lv_icmp_le (tgt := 14) hx hb d_T_blocksThatFit_8 (by decide) (fun c_8 => ?_) (fun c_8 => ?_)
    · refine lv_iload_n hx hb d_T_blocksThatFit_14 rfl (lv_at hl 1 rfl) ?_
      refine lv_iconst (v := 2) hx hb d_T_blocksThatFit_15 (by decide) ?_
      refine lv_aload_n hx hb d_T_blocksThatFit_16 rfl (lv_at hl 0 rfl) ?_
      refine f_get S cls_T hK hP 0 rfl 2 (by decide) fl_T_mark rfl rfl d_T_blocksThatFit_17 ?_
      refine lv_imul hx hb d_T_blocksThatFit_20 ?_
      refine lv_iadd hx hb d_T_blocksThatFit_21 ?_
      refine lv_istore_n (lv' := [(2, .int (x + (2 * (g 2)))), (0, .ref (t 0)), (1, .int x)]) hx hb d_T_blocksThatFit_22 rfl hl (by decide) rfl (fun ls hl => ?_)
      refine lv_iload_n hx hb d_T_blocksThatFit_23 rfl (lv_at hl 0 rfl) ?_
      refine lv_iconst (v := 1) hx hb d_T_blocksThatFit_24 (by decide) ?_
      refine lv_icmp_ge (tgt := 30) hx hb d_T_blocksThatFit_25 (by decide) (fun c_25 => ?_) (fun c_25 => ?_)
      · refine lv_bipush (v := 40) hx hb d_T_blocksThatFit_30 (by decide) ?_
        refine lv_aload_n hx hb d_T_blocksThatFit_32 rfl (lv_at hl 1 rfl) ?_
        refine T_ro S (c_T_allBlocks l D ca t g  hB) k_T_58 rfl hP hK rfl rfl hl.1 ⟨Nat.le_of_ble_eq_true rfl, Nat.le_of_ble_eq_true rfl⟩ ⟨Nat.zero_le _, Nat.zero_le _⟩ (Nat.le_of_ble_eq_true rfl) d_T_blocksThatFit_33 ?_
        refine lv_isub hx hb d_T_blocksThatFit_36 ?_
        refine lv_aload_n hx hb d_T_blocksThatFit_37 rfl (lv_at hl 1 rfl) ?_
        refine T_ro S (c_T_gap l D ca t g  hB) k_T_68 rfl hP hK rfl rfl hl.1 ⟨Nat.le_of_ble_eq_true rfl, Nat.le_of_ble_eq_true rfl⟩ ⟨Nat.zero_le _, Nat.zero_le _⟩ (Nat.le_of_ble_eq_true rfl) d_T_blocksThatFit_38 ?_
        refine lv_aload_n hx hb d_T_blocksThatFit_41 rfl (lv_at hl 1 rfl) ?_
        refine f_get S cls_T hK hP 0 rfl 1 (by decide) fl_T_leastGap rfl rfl d_T_blocksThatFit_42 ?_
        refine lv_isub hx hb d_T_blocksThatFit_45 ?_
        refine lv_iload_n hx hb d_T_blocksThatFit_46 rfl (lv_at hl 0 rfl) ?_
        refine lv_idiv hx hb d_T_blocksThatFit_47 (fun q => by rw [q] at c_25; exact absurd c_25 (by decide)) ?_
        refine va_mmin hx hb (hml.trans hl.1.symm) hown (hts _ kx_T_62) (hts _ xs_Math_min) (hts _ in_java_lang_Math) (hts _ xc_Math_min) (Nat.le_of_ble_eq_true rfl) (Nat.le_of_ble_eq_true rfl) (Nat.zero_le _) (Nat.zero_le _) d_T_blocksThatFit_48 ?_
        refine lv_tope (z := mn2 (40 - (nI (bn g 0 + bn g 1))) (((gp g) - (g 1)) / (x + (2 * (g 2))))) rfl ?_
        exact hret _ _ _ d_T_blocksThatFit_51 rfl (by first | (simp only [btf, c_2, c_8, c_25, ↓reduceIte]; done) | (simp only [btf, c_2, c_8, c_25, ↓reduceIte]; rfl) | rfl)
      · refine lv_iconst (v := 0) hx hb d_T_blocksThatFit_28 (by decide) ?_
        exact hret _ _ _ d_T_blocksThatFit_29 rfl (by first | (simp only [btf, c_2, c_8, c_25, ↓reduceIte]; done) | (simp only [btf, c_2, c_8, c_25, ↓reduceIte]; rfl) | rfl)
    · refine lv_bipush (v := (-2)) hx hb d_T_blocksThatFit_11 (by decide) ?_
      exact hret _ _ _ d_T_blocksThatFit_13 rfl (by first | (simp only [btf, c_2, c_8, ↓reduceIte]; done) | (simp only [btf, c_2, c_8, ↓reduceIte]; rfl) | rfl)
set_option maxHeartbeats 4000000 in
set_option maxRecDepth 100000 in
theorem c_T_aboutNearest (l : Launch) (D : va_G) (ca : Nat → ClassId) (t : Nat → Nat) (g : Nat → Int32) (x : Int32) (hB : BN g): RO l y_T_aboutNearest b_T_aboutNearest 8 (some .int) 5 115 D ca [.ref (t 0), .int x] (tw ca t g) (nsr g x) := by
  refine RO.mk (ty := .int) rfl rfl (Nat.le_of_ble_eq_true rfl) ?_
  intro p e s m args below meth c Q S hP hK
  obtain ⟨hx, hb, hml, hown, hts⟩ := id S
  intro hret ls hl0
  have hl : lv_has ls 8 [(0, .ref (t 0)), (1, .int x)] := hl0
  refine lv_iload_n hx hb d_T_aboutNearest_0 rfl (lv_at hl 1 rfl) ?_
  refine lv_if_lt (tgt := 9) hx hb d_T_aboutNearest_1 (by decide) (fun c_1 => ?_) (fun c_1 => ?_)
  · refine lv_bipush (v := (-2)) hx hb d_T_aboutNearest_9 (by decide) ?_
    exact hret _ _ _ d_T_aboutNearest_11 rfl (by first | (simp only [nsr, c_1, ↓reduceIte]; done) | (simp only [nsr, c_1, ↓reduceIte]; rfl) | rfl)
  · refine lv_iload_n hx hb d_T_aboutNearest_4 rfl (lv_at hl 1 rfl) ?_
    refine lv_iconst (v := 3) hx hb d_T_aboutNearest_5 (by decide) ?_
    refine lv_icmp_le (tgt := 12) hx hb d_T_aboutNearest_6 (by decide) (fun c_6 => ?_) (fun c_6 => ?_)
    · refine lv_iconst (v := (-1)) hx hb d_T_aboutNearest_12 (by decide) ?_
      refine lv_istore_n (lv' := [(2, .int (-1)), (0, .ref (t 0)), (1, .int x)]) hx hb d_T_aboutNearest_13 rfl hl (by decide) rfl (fun ls hl => ?_)
      refine lv_bipush (v := (-6)) hx hb d_T_aboutNearest_14 (by decide) ?_
      refine lv_istore_n (lv' := [(3, .int (-6)), (2, .int (-1)), (0, .ref (t 0)), (1, .int x)]) hx hb d_T_aboutNearest_16 rfl hl (by decide) rfl (fun ls hl => ?_)
      refine lv_iconst (v := 0) hx hb d_T_aboutNearest_17 (by decide) ?_
      refine lv_istore (lv' := [(4, .int 0), (3, .int (-6)), (2, .int (-1)), (0, .ref (t 0)), (1, .int x)]) hx hb d_T_aboutNearest_18 hl (by decide) rfl (fun ls hl => ?_)
      have st : ∀ (i j w : Nat) (q : Int32 × Int32), i < 2 → j < 20 → w < 2 → (∀ (v : Int32) (ls : Array Slot), lv_has ls 8 [(2, .int (nst g x i j w q).1), (3, .int (nst g x i j w q).2), (4, .int (nI i)), (5, .int (nI j)), (6, .int (nI w)), (0, .ref (t 0)), (1, .int x)] → W p l e (rm 5 115 0 0) s m args below meth c s.heap [] 0 0 Q (F0 m 107 ls [])) → ∀ ls : Array Slot, lv_has ls 8 [(2, .int q.1), (3, .int q.2), (4, .int (nI i)), (5, .int (nI j)), (6, .int (nI w)), (0, .ref (t 0)), (1, .int x)] → W p l e (rm 5 115 0 0) s m args below meth c s.heap [] 0 0 Q (F0 m 50 ls []) := by
        intro i j w q hi hj hw kk ls hl
        refine lv_aload_n hx hb d_T_aboutNearest_50 rfl (lv_at hl 5 rfl) ?_
        refine lv_iload hx hb d_T_aboutNearest_51 (lv_at hl 2 rfl) ?_
        refine lv_iload hx hb d_T_aboutNearest_53 (lv_at hl 3 rfl) ?_
        refine lv_iload hx hb d_T_aboutNearest_55 (lv_at hl 4 rfl) ?_
        refine T_ro S (c_T_travelToRead l D ca t g i j w (by omega) (by omega) (by omega)) k_T_119 rfl hP hK rfl rfl hl.1 ⟨Nat.le_of_ble_eq_true rfl, Nat.le_of_ble_eq_true rfl⟩ ⟨Nat.zero_le _, Nat.zero_le _⟩ (Nat.le_of_ble_eq_true rfl) d_T_aboutNearest_57 ?_
        refine lv_istore (lv' := [(7, .int (tr g i j w)), (2, .int q.1), (3, .int q.2), (4, .int (nI i)), (5, .int (nI j)), (6, .int (nI w)), (0, .ref (t 0)), (1, .int x)]) hx hb d_T_aboutNearest_60 hl (by decide) rfl (fun ls hl => ?_)
        refine lv_iload_n hx hb d_T_aboutNearest_62 rfl (lv_at hl 1 rfl) ?_
        refine lv_if_lt (tgt := 72) hx hb d_T_aboutNearest_63 (by decide) (fun c_63 => ?_) (fun c_63 => ?_)
        · refine lv_iload hx hb d_T_aboutNearest_72 (lv_at hl 0 rfl) ?_
          refine lv_istore_n (lv' := [(2, .int (tr g i j w)), (7, .int (tr g i j w)), (3, .int q.2), (4, .int (nI i)), (5, .int (nI j)), (6, .int (nI w)), (0, .ref (t 0)), (1, .int x)]) hx hb d_T_aboutNearest_74 rfl hl (by decide) rfl (fun ls hl => ?_)
          refine lv_iload_n hx hb d_T_aboutNearest_75 rfl (lv_at hl 7 rfl) ?_
          refine lv_if_ne (tgt := 84) hx hb d_T_aboutNearest_76 (by decide) (fun c_76 => ?_) (fun c_76 => ?_)
          · refine lv_iload_n hx hb d_T_aboutNearest_84 rfl (lv_at hl 7 rfl) ?_
            refine lv_iconst (v := 1) hx hb d_T_aboutNearest_85 (by decide) ?_
            refine lv_icmp_ne (tgt := 94) hx hb d_T_aboutNearest_86 (by decide) (fun c_86 => ?_) (fun c_86 => ?_)
            · refine lv_iload_n hx hb d_T_aboutNearest_94 rfl (lv_at hl 7 rfl) ?_
              refine lv_iconst (v := 2) hx hb d_T_aboutNearest_95 (by decide) ?_
              refine lv_icmp_ne (tgt := 104) hx hb d_T_aboutNearest_96 (by decide) (fun c_96 => ?_) (fun c_96 => ?_)
              · refine lv_iload hx hb d_T_aboutNearest_104 (lv_at hl 1 rfl) ?_
                refine lv_istore_n (lv' := [(3, .int (tr g i j w)), (2, .int (tr g i j w)), (7, .int (tr g i j w)), (4, .int (nI i)), (5, .int (nI j)), (6, .int (nI w)), (0, .ref (t 0)), (1, .int x)]) hx hb d_T_aboutNearest_106 rfl hl (by decide) rfl (fun ls hl => ?_)
                have hq : nst g x i j w q = (tr g i j w, tr g i j w) := by
                  simp only [nst, nsa, c_63, c_76, c_86, c_96, ↓reduceIte]; first | done | rfl
                refine kk 0 _ ?_
                rw [hq]
                exact lv_sub hl [1, 0, 3, 4, 5, 6, 7] rfl
              · refine lv_iload hx hb d_T_aboutNearest_99 (lv_at hl 5 rfl) ?_
                refine lv_goto (tgt := 106) hx hb d_T_aboutNearest_101 (by decide) ?_
                refine lv_istore_n (lv' := [(3, .int (nI w)), (2, .int (tr g i j w)), (7, .int (tr g i j w)), (4, .int (nI i)), (5, .int (nI j)), (6, .int (nI w)), (0, .ref (t 0)), (1, .int x)]) hx hb d_T_aboutNearest_106 rfl hl (by decide) rfl (fun ls hl => ?_)
                have hq : nst g x i j w q = (tr g i j w, nI w) := by
                  simp only [nst, nsa, c_63, c_76, c_86, c_96, ↓reduceIte]; first | done | rfl
                refine kk 0 _ ?_
                rw [hq]
                exact lv_sub hl [1, 0, 3, 4, 5, 6, 7] rfl
            · refine lv_iload hx hb d_T_aboutNearest_89 (lv_at hl 4 rfl) ?_
              refine lv_goto (tgt := 106) hx hb d_T_aboutNearest_91 (by decide) ?_
              refine lv_istore_n (lv' := [(3, .int (nI j)), (2, .int (tr g i j w)), (7, .int (tr g i j w)), (4, .int (nI i)), (5, .int (nI j)), (6, .int (nI w)), (0, .ref (t 0)), (1, .int x)]) hx hb d_T_aboutNearest_106 rfl hl (by decide) rfl (fun ls hl => ?_)
              have hq : nst g x i j w q = (tr g i j w, nI j) := by
                simp only [nst, nsa, c_63, c_76, c_86, ↓reduceIte]; first | done | rfl
              refine kk 0 _ ?_
              rw [hq]
              exact lv_sub hl [1, 0, 3, 4, 5, 6, 7] rfl
          · refine lv_iload hx hb d_T_aboutNearest_79 (lv_at hl 3 rfl) ?_
            refine lv_goto (tgt := 106) hx hb d_T_aboutNearest_81 (by decide) ?_
            refine lv_istore_n (lv' := [(3, .int (nI i)), (2, .int (tr g i j w)), (7, .int (tr g i j w)), (4, .int (nI i)), (5, .int (nI j)), (6, .int (nI w)), (0, .ref (t 0)), (1, .int x)]) hx hb d_T_aboutNearest_106 rfl hl (by decide) rfl (fun ls hl => ?_)
            have hq : nst g x i j w q = (tr g i j w, nI i) := by
              simp only [nst, nsa, c_63, c_76, ↓reduceIte]; first | done | rfl
            refine kk 0 _ ?_
            rw [hq]
            exact lv_sub hl [1, 0, 3, 4, 5, 6, 7] rfl
        · refine lv_iload hx hb d_T_aboutNearest_66 (lv_at hl 0 rfl) ?_
          refine lv_iload_n hx hb d_T_aboutNearest_68 rfl (lv_at hl 1 rfl) ?_
          refine lv_icmp_ge (tgt := 107) hx hb d_T_aboutNearest_69 (by decide) (fun c_69 => ?_) (fun c_69 => ?_)
          · have hq : nst g x i j w q = (q.1, q.2) := by
              simp only [nst, nsa, c_63, c_69, ↓reduceIte]; first | done | rfl
            refine kk 0 _ ?_
            rw [hq]
            exact lv_sub hl [1, 2, 3, 4, 5, 6, 7] rfl
          · refine lv_iload hx hb d_T_aboutNearest_72 (lv_at hl 0 rfl) ?_
            refine lv_istore_n (lv' := [(2, .int (tr g i j w)), (7, .int (tr g i j w)), (3, .int q.2), (4, .int (nI i)), (5, .int (nI j)), (6, .int (nI w)), (0, .ref (t 0)), (1, .int x)]) hx hb d_T_aboutNearest_74 rfl hl (by decide) rfl (fun ls hl => ?_)
            refine lv_iload_n hx hb d_T_aboutNearest_75 rfl (lv_at hl 7 rfl) ?_
            refine lv_if_ne (tgt := 84) hx hb d_T_aboutNearest_76 (by decide) (fun c_76 => ?_) (fun c_76 => ?_)
            · refine lv_iload_n hx hb d_T_aboutNearest_84 rfl (lv_at hl 7 rfl) ?_
              refine lv_iconst (v := 1) hx hb d_T_aboutNearest_85 (by decide) ?_
              refine lv_icmp_ne (tgt := 94) hx hb d_T_aboutNearest_86 (by decide) (fun c_86 => ?_) (fun c_86 => ?_)
              · refine lv_iload_n hx hb d_T_aboutNearest_94 rfl (lv_at hl 7 rfl) ?_
                refine lv_iconst (v := 2) hx hb d_T_aboutNearest_95 (by decide) ?_
                refine lv_icmp_ne (tgt := 104) hx hb d_T_aboutNearest_96 (by decide) (fun c_96 => ?_) (fun c_96 => ?_)
                · refine lv_iload hx hb d_T_aboutNearest_104 (lv_at hl 1 rfl) ?_
                  refine lv_istore_n (lv' := [(3, .int (tr g i j w)), (2, .int (tr g i j w)), (7, .int (tr g i j w)), (4, .int (nI i)), (5, .int (nI j)), (6, .int (nI w)), (0, .ref (t 0)), (1, .int x)]) hx hb d_T_aboutNearest_106 rfl hl (by decide) rfl (fun ls hl => ?_)
                  have hq : nst g x i j w q = (tr g i j w, tr g i j w) := by
                    simp only [nst, nsa, c_63, c_69, c_76, c_86, c_96, ↓reduceIte]; first | done | rfl
                  refine kk 0 _ ?_
                  rw [hq]
                  exact lv_sub hl [1, 0, 3, 4, 5, 6, 7] rfl
                · refine lv_iload hx hb d_T_aboutNearest_99 (lv_at hl 5 rfl) ?_
                  refine lv_goto (tgt := 106) hx hb d_T_aboutNearest_101 (by decide) ?_
                  refine lv_istore_n (lv' := [(3, .int (nI w)), (2, .int (tr g i j w)), (7, .int (tr g i j w)), (4, .int (nI i)), (5, .int (nI j)), (6, .int (nI w)), (0, .ref (t 0)), (1, .int x)]) hx hb d_T_aboutNearest_106 rfl hl (by decide) rfl (fun ls hl => ?_)
                  have hq : nst g x i j w q = (tr g i j w, nI w) := by
                    simp only [nst, nsa, c_63, c_69, c_76, c_86, c_96, ↓reduceIte]; first | done | rfl
                  refine kk 0 _ ?_
                  rw [hq]
                  exact lv_sub hl [1, 0, 3, 4, 5, 6, 7] rfl
              · refine lv_iload hx hb d_T_aboutNearest_89 (lv_at hl 4 rfl) ?_
                refine lv_goto (tgt := 106) hx hb d_T_aboutNearest_91 (by decide) ?_
                refine lv_istore_n (lv' := [(3, .int (nI j)), (2, .int (tr g i j w)), (7, .int (tr g i j w)), (4, .int (nI i)), (5, .int (nI j)), (6, .int (nI w)), (0, .ref (t 0)), (1, .int x)]) hx hb d_T_aboutNearest_106 rfl hl (by decide) rfl (fun ls hl => ?_)
                have hq : nst g x i j w q = (tr g i j w, nI j) := by
                  simp only [nst, nsa, c_63, c_69, c_76, c_86, ↓reduceIte]; first | done | rfl
                refine kk 0 _ ?_
                rw [hq]
                exact lv_sub hl [1, 0, 3, 4, 5, 6, 7] rfl
            · refine lv_iload hx hb d_T_aboutNearest_79 (lv_at hl 3 rfl) ?_
              refine lv_goto (tgt := 106) hx hb d_T_aboutNearest_81 (by decide) ?_
              refine lv_istore_n (lv' := [(3, .int (nI i)), (2, .int (tr g i j w)), (7, .int (tr g i j w)), (4, .int (nI i)), (5, .int (nI j)), (6, .int (nI w)), (0, .ref (t 0)), (1, .int x)]) hx hb d_T_aboutNearest_106 rfl hl (by decide) rfl (fun ls hl => ?_)
              have hq : nst g x i j w q = (tr g i j w, nI i) := by
                simp only [nst, nsa, c_63, c_69, c_76, ↓reduceIte]; first | done | rfl
              refine kk 0 _ ?_
              rw [hq]
              exact lv_sub hl [1, 0, 3, 4, 5, 6, 7] rfl
      have lb : ∀ (i : Nat), i < 2 → (∀ (q : Int32 × Int32) (ls : Array Slot), q = nsb g x i (bn g i) 0 q → True) → ∀ (kk : ∀ (q : Int32 × Int32) (ls : Array Slot), lv_has ls 8 [(2, .int q.1), (3, .int q.2), (4, .int (nI i)), (0, .ref (t 0)), (1, .int x)] → (nsf g x 2 0 (-1, -6)) = nsf g x (1 - i) (i + 1) q → W p l e (rm 5 115 0 0) s m args below meth c s.heap [] 0 0 Q (F0 m 119 ls [])) (k j : Nat) (q : Int32 × Int32), bn g i - j < k → j ≤ bn g i → (nsf g x 2 0 (-1, -6)) = nsf g x (1 - i) (i + 1) (nsb g x i (bn g i - j) j q) → ∀ ls : Array Slot, lv_has ls 8 [(2, .int q.1), (3, .int q.2), (4, .int (nI i)), (5, .int (nI j)), (0, .ref (t 0)), (1, .int x)] → W p l e (rm 5 115 0 0) s m args below meth c s.heap [] 0 0 Q (F0 m 29 ls []) := by
        intro i hi _ kk k
        have hn := (hB i hi).2
        induction k with
        | zero => intro j q hj; omega
        | succ k ih =>
          intro j q hj hjn hE ls hl
          refine lv_iload hx hb d_T_aboutNearest_29 (lv_at hl 3 rfl) ?_
          refine lv_aload_n hx hb d_T_aboutNearest_31 rfl (lv_at hl 4 rfl) ?_
          refine f_get S cls_T hK hP 0 rfl 8 (by decide) fl_T_blocks rfl rfl d_T_aboutNearest_32 ?_
          refine lv_iload hx hb d_T_aboutNearest_35 (lv_at hl 2 rfl) ?_
          refine T_bl S hK hP hB (f := i) (by omega) rfl d_T_aboutNearest_37 ?_
          refine lv_icmp_ge (tgt := 119) hx hb d_T_aboutNearest_38 (by decide) (fun c_38 => ?_) (fun c_38 => ?_)
          · have e_38 : bn g i ≤ j := le_of_nI (by omega) (by omega) c_38
            obtain rfl : j = bn g i := by omega
            rw [Nat.sub_self] at hE
            exact kk q _ (lv_sub hl [0, 1, 2, 4, 5] rfl) hE
          · have e_38 : j < bn g i := nle_lt (by omega) (by omega) c_38
            refine lv_iconst (v := 0) hx hb d_T_aboutNearest_41 (by decide) ?_
            refine lv_istore (lv' := [(6, .int 0), (2, .int q.1), (3, .int q.2), (4, .int (nI i)), (5, .int (nI j)), (0, .ref (t 0)), (1, .int x)]) hx hb d_T_aboutNearest_42 hl (by decide) rfl (fun ls hl => ?_)
            refine lv_iload hx hb d_T_aboutNearest_44 (lv_at hl 0 rfl) ?_
            refine lv_iconst (v := 1) hx hb d_T_aboutNearest_46 (by decide) ?_
            refine lv_icmp_gt (tgt := 113) hx hb d_T_aboutNearest_47 (by decide) (fun q => absurd q (by decide)) (fun _ => ?_)
            refine st i j 0 q hi (by omega) (by omega) (fun _ ls hl => ?_) _ (lv_sub hl [1, 2, 3, 4, 0, 5, 6] rfl)
            refine lv_iinc (v := 1) (lv' := [(6, .int 1), (2, .int (nst g x i j 0 q).1), (3, .int (nst g x i j 0 q).2), (4, .int (nI i)), (5, .int (nI j)), (0, .ref (t 0)), (1, .int x)]) hx hb d_T_aboutNearest_107 hl (k := 4) rfl (by decide) (by decide) rfl (fun ls hl => ?_)
            refine lv_goto (tgt := 44) hx hb d_T_aboutNearest_110 (by decide) ?_
            refine lv_iload hx hb d_T_aboutNearest_44 (lv_at hl 0 rfl) ?_
            refine lv_iconst (v := 1) hx hb d_T_aboutNearest_46 (by decide) ?_
            refine lv_icmp_gt (tgt := 113) hx hb d_T_aboutNearest_47 (by decide) (fun q => absurd q (by decide)) (fun _ => ?_)
            refine st i j 1 _ hi (by omega) (by omega) (fun _ ls hl => ?_) _ (lv_sub hl [1, 2, 3, 4, 0, 5, 6] rfl)
            refine lv_iinc (v := 2) (lv' := [(6, .int 2), (2, .int (nst g x i j 1 (nst g x i j 0 q)).1), (3, .int (nst g x i j 1 (nst g x i j 0 q)).2), (4, .int (nI i)), (5, .int (nI j)), (0, .ref (t 0)), (1, .int x)]) hx hb d_T_aboutNearest_107 hl (k := 4) rfl (by decide) (by decide) rfl (fun ls hl => ?_)
            refine lv_goto (tgt := 44) hx hb d_T_aboutNearest_110 (by decide) ?_
            refine lv_iload hx hb d_T_aboutNearest_44 (lv_at hl 0 rfl) ?_
            refine lv_iconst (v := 1) hx hb d_T_aboutNearest_46 (by decide) ?_
            refine lv_icmp_gt (tgt := 113) hx hb d_T_aboutNearest_47 (by decide) (fun _ => ?_) (fun q => absurd (by decide) q)
            refine lv_iinc (v := nI (j + 1)) (lv' := [(5, .int (nI (j + 1))), (6, .int 2), (2, .int (nst g x i j 1 (nst g x i j 0 q)).1), (3, .int (nst g x i j 1 (nst g x i j 0 q)).2), (4, .int (nI i)), (0, .ref (t 0)), (1, .int x)]) hx hb d_T_aboutNearest_113 hl (k := 4) rfl (nI_1 j) (by decide) rfl (fun ls hl => ?_)
            refine lv_goto (tgt := 29) hx hb d_T_aboutNearest_116 (by decide) ?_
            refine ih (j + 1) _ (by omega) (by omega) ?_ _ (lv_sub hl [2, 3, 4, 0, 5, 6] rfl)
            rw [hE, show bn g i - j = (bn g i - (j + 1)) + 1 by omega]
            rfl
      suffices lp : ∀ (k i : Nat) (q : Int32 × Int32), 2 - i < k → i ≤ 2 → (nsf g x 2 0 (-1, -6)) = nsf g x (2 - i) i q → ∀ ls : Array Slot, lv_has ls 8 [(2, .int q.1), (3, .int q.2), (4, .int (nI i)), (0, .ref (t 0)), (1, .int x)] → W p l e (rm 5 115 0 0) s m args below meth c s.heap [] 0 0 Q (F0 m 20 ls []) from lp 3 0 (-1, -6) (by omega) (by omega) rfl _ (lv_sub hl [2, 1, 0, 3, 4] rfl)
      intro k
      induction k with
      | zero => intro i q hi; omega
      | succ k ih =>
        intro i q hi hin hE ls hl
        refine lv_iload hx hb d_T_aboutNearest_20 (lv_at hl 2 rfl) ?_
        refine lv_iconst (v := 2) hx hb d_T_aboutNearest_22 (by decide) ?_
        refine lv_icmp_ge (tgt := 125) hx hb d_T_aboutNearest_23 (by decide) (fun c_23 => ?_) (fun c_23 => ?_)
        · have e_23 : 2 ≤ i := le_of_nI (by omega) (by omega) (show nI 2 ≤ nI i from c_23)
          obtain rfl : i = 2 := by omega
          refine lv_iload_n hx hb d_T_aboutNearest_125 rfl (lv_at hl 1 rfl) ?_
          exact hret _ _ _ d_T_aboutNearest_126 rfl (by
            simp only [nsr, c_1, c_6, ↓reduceIte]
            rw [hE]; rfl)
        · have e_23 : i < 2 := nle_lt (by omega) (by omega) (show ¬ nI 2 ≤ nI i from c_23)
          refine lv_iconst (v := 0) hx hb d_T_aboutNearest_26 (by decide) ?_
          refine lv_istore (lv' := [(5, .int 0), (2, .int q.1), (3, .int q.2), (4, .int (nI i)), (0, .ref (t 0)), (1, .int x)]) hx hb d_T_aboutNearest_27 hl (by decide) rfl (fun ls hl => ?_)
          refine lb i e_23 (fun _ _ _ => trivial) (fun q ls hl hE => ?_) (bn g i + 1) 0 q (by omega) (by omega) ?_ _ (lv_sub hl [1, 2, 3, 0, 4, 5] rfl)
          · refine lv_iinc (v := nI (i + 1)) (lv' := [(4, .int (nI (i + 1))), (2, .int q.1), (3, .int q.2), (0, .ref (t 0)), (1, .int x)]) hx hb d_T_aboutNearest_119 hl (k := 2) rfl (nI_1 i) (by decide) rfl (fun ls hl => ?_)
            refine lv_goto (tgt := 20) hx hb d_T_aboutNearest_122 (by decide) ?_
            refine ih (i + 1) q (by omega) (by omega) ?_ _ (lv_sub hl [1, 2, 0, 3, 4] rfl)
            rw [hE, show 2 - (i + 1) = 1 - i by omega]
          · rw [hE, show 2 - i = (1 - i) + 1 by omega]
            rfl
    · refine lv_bipush (v := (-2)) hx hb d_T_aboutNearest_9 (by decide) ?_
      exact hret _ _ _ d_T_aboutNearest_11 rfl (by first | (simp only [nsr, c_1, c_6, ↓reduceIte]; done) | (simp only [nsr, c_1, c_6, ↓reduceIte]; rfl) | rfl)
