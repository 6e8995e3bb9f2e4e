theorem wb_tb (n : Nat) : (lN n).toBitVec = BitVec.ofNat 64 n := rfl
theorem wb_inj {a b : Int64} (h : a.toBitVec = b.toBitVec) : a = b := Int64.toBitVec_inj.mp h
theorem wb_tn {n : Nat} (h : n < 2 ^ 64) : (lN n).toBitVec.toNat = n := by rw [wb_tb, BitVec.toNat_ofNat, Nat.mod_eq_of_lt h]
theorem wb_of (x : Int64) : ∃ n, n < 2 ^ 64 ∧ x = lN n := ⟨x.toBitVec.toNat, x.toBitVec.isLt, wb_inj (by rw [wb_tb]; simp)⟩
theorem wb_of32 (x : Int32) : ∃ n, n < 2 ^ 32 ∧ x = nI n := ⟨x.toBitVec.toNat, x.toBitVec.isLt, Int32.toBitVec_inj.mp (by show _ = BitVec.ofNat 32 _; simp)⟩
theorem wb_c : ∀ k, k < 64 → ((nI k).toInt64 &&& 63) = lN k := by decide +kernel
theorem wb_cu : ∀ k, k < 64 → ((nI k).toInt64.toUInt64 &&& Int64.toUInt64 63) = UInt64.ofNat k := by decide +kernel
theorem wb_sm : ∀ k, k < 64 → (BitVec.ofNat 64 k).smod 64 = BitVec.ofNat 64 k := by decide +kernel
theorem wb_pw {a b : Nat} (h : a ≤ b) : 2 ^ b = 2 ^ a * 2 ^ (b - a) := by rw [← Nat.pow_add]; congr 1; omega
theorem wb_lt2 {a b : Nat} (h : a < b) : 2 ^ a < 2 ^ b := Nat.pow_lt_pow_right (by decide) h
theorem wb_mod (n : Nat) : lN n = lN (n % 2 ^ 64) := wb_inj (by rw [wb_tb, wb_tb]; apply BitVec.eq_of_toNat_eq; rw [BitVec.toNat_ofNat, BitVec.toNat_ofNat, Nat.mod_mod])
theorem wb_shr {n k : Nat} (hn : n < 2 ^ 64) (hk : k < 64) : ((lN n).toUInt64 >>> ((nI k).toInt64.toUInt64 &&& Int64.toUInt64 63)).toInt64 = lN (n / 2 ^ k) := by
  rw [wb_cu k hk]
  apply wb_inj
  apply BitVec.eq_of_toNat_eq
  show ((lN n).toUInt64 >>> UInt64.ofNat k).toNat = (BitVec.ofNat 64 _).toNat
  have h1 : (UInt64.ofNat k).toNat = k := by
    show (BitVec.ofNat 64 k).toNat = k
    rw [BitVec.toNat_ofNat, Nat.mod_eq_of_lt (by omega)]
  have h2 : (lN n).toUInt64.toNat = n := wb_tn hn
  rw [UInt64.toNat_shiftRight, h1, h2, Nat.mod_eq_of_lt hk, Nat.shiftRight_eq_div_pow, BitVec.toNat_ofNat, Nat.mod_eq_of_lt (Nat.lt_of_le_of_lt (Nat.div_le_self _ _) hn)]
theorem wb_shl (n : Nat) {k : Nat} (hk : k < 64) : lN n <<< ((nI k).toInt64 &&& 63) = lN (n * 2 ^ k) := by
  rw [wb_c k hk]
  apply wb_inj
  rw [Int64.toBitVec_shiftLeft, wb_tb, wb_tb, wb_tb, wb_sm k hk]
  apply BitVec.eq_of_toNat_eq
  rw [BitVec.shiftLeft_eq', BitVec.toNat_shiftLeft, BitVec.toNat_ofNat, BitVec.toNat_ofNat, BitVec.toNat_ofNat, Nat.mod_eq_of_lt (show k < 2 ^ 64 by omega), Nat.shiftLeft_eq, Nat.mul_mod, Nat.mod_mod, ← Nat.mul_mod]
theorem wb_and {a b : Nat} (ha : a < 2 ^ 64) (hb : b < 2 ^ 64) : lN a &&& lN b = lN (a &&& b) := by
  apply wb_inj
  rw [Int64.toBitVec_and, wb_tb, wb_tb, wb_tb]
  apply BitVec.eq_of_toNat_eq
  rw [BitVec.toNat_and, BitVec.toNat_ofNat, BitVec.toNat_ofNat, BitVec.toNat_ofNat, Nat.mod_eq_of_lt ha, Nat.mod_eq_of_lt hb, Nat.mod_eq_of_lt (Nat.and_lt_two_pow _ hb)]
theorem wb_or {a b : Nat} (ha : a < 2 ^ 64) (hb : b < 2 ^ 64) : lN a ||| lN b = lN (a ||| b) := by
  apply wb_inj
  rw [Int64.toBitVec_or, wb_tb, wb_tb, wb_tb]
  apply BitVec.eq_of_toNat_eq
  rw [BitVec.toNat_or, BitVec.toNat_ofNat, BitVec.toNat_ofNat, BitVec.toNat_ofNat, Nat.mod_eq_of_lt ha, Nat.mod_eq_of_lt hb, Nat.mod_eq_of_lt (Nat.or_lt_two_pow ha hb)]
theorem wb_mask {n k : Nat} (hn : n < 2 ^ 64) (hk : k < 64) : lN n &&& lN (2 ^ k - 1) = lN (n % 2 ^ k) := by
  rw [wb_and hn (by have := wb_lt2 hk; omega), Nat.and_two_pow_sub_one_eq_mod]
/-! Putting characters: the bytes of a number -/
theorem lv_topel {p : Program} {l : Launch} {e : Env} {R : Room} {s : State} {m : MethodId} {args : Array Value} {below : List Frame} {meth : Method} {c : Code} {H : Heap} {locs : List Loc} {cells slots : Nat} {Q : State → Prop} {pc : Nat} {ls : Array Slot} {rest : List Value} {x z : Int64} (h : x = z) (k : W p l e R s m args below meth c H locs cells slots Q (F0 m pc ls (.long z :: rest))) : W p l e R s m args below meth c H locs cells slots Q (F0 m pc ls (.long x :: rest)) := by rw [h]; exact k
def hby (N k : Nat) : Nat := N / 2 ^ (8 * k)
def byt (N k : Nat) : Nat := hby N k % 2 ^ 8
def okb (c : Nat) : Bool := decide (33 ≤ c ∧ c ≤ 126)
theorem byt_lt (N k : Nat) : byt N k < 256 := Nat.mod_lt _ (by decide)
theorem hb_lt {N : Nat} (hN : N < 2 ^ 64) (k : Nat) : hby N k < 2 ^ 64 := Nat.lt_of_le_of_lt (Nat.div_le_self _ _) hN
theorem hb_0 (N : Nat) : hby N 0 = N := Nat.div_one N
theorem hb_s (N k : Nat) : hby N k / 2 ^ 8 = hby N (k + 1) := by
  unfold hby
  rw [Nat.div_div_eq_div_mul, ← Nat.pow_add]
  congr 1
theorem l_shr {N : Nat} (hN : N < 2 ^ 64) {k : Nat} (hk : k < 8) : ((lN N).toUInt64 >>> ((nI (8 * k)).toInt64.toUInt64 &&& Int64.toUInt64 63)).toInt64 = lN (hby N k) := wb_shr hN (by omega)
theorem l_shr8 {N : Nat} (hN : N < 2 ^ 64) (k : Nat) : ((lN (hby N k)).toUInt64 >>> ((8 : Int32).toInt64.toUInt64 &&& Int64.toUInt64 63)).toInt64 = lN (hby N (k + 1)) := by
  have h := wb_shr (n := hby N k) (k := 8) (hb_lt hN k) (by decide)
  rw [hb_s] at h
  exact h
theorem l_and {N : Nat} (hN : N < 2 ^ 64) (k : Nat) : lN (hby N k) &&& 255 = lN (byt N k) := wb_mask (n := hby N k) (k := 8) (hb_lt hN k) (by decide)
theorem lN_z {n : Nat} (hn : n < 2 ^ 64) : lN n = 0 ↔ n = 0 := by
  constructor
  · intro h
    have h1 : (lN n).toBitVec.toNat = (0 : Int64).toBitVec.toNat := congrArg (fun z : Int64 => z.toBitVec.toNat) h
    have h2 : (lN n).toBitVec.toNat = n := wb_tn hn
    have h3 : ((0 : Int64)).toBitVec.toNat = 0 := by decide
    rw [h2, h3] at h1
    exact h1
  · intro h; subst h; rfl
theorem byt_ch (N k : Nat) : ((nI (byt N k)).toUInt32 % 65536).toInt32 = nI (byt N k) := (sb_byte (byt N k) (byt_lt N k)).2.1
theorem inr_byt (N k : Nat) : inr (nI (byt N k)) 33 126 = 0 ↔ okb (byt N k) = false := by
  have h := byt_lt N k
  unfold inr okb
  have e1 : (nI (byt N k) < 33) ↔ byt N k < 33 := nI_ltI (b := 33) (by omega) (by decide)
  have e2 : ((126 : Int32) < nI (byt N k)) ↔ 126 < byt N k := nI_ltI (a := 126) (by decide) (by omega)
  by_cases h1 : byt N k < 33
  · rw [if_pos (e1.mpr h1)]; simp; omega
  · rw [if_neg (fun q => h1 (e1.mp q))]
    by_cases h2 : 126 < byt N k
    · rw [if_pos (e2.mpr h2)]; simp; omega
    · rw [if_neg (fun q => h2 (e2.mp q))]; simp; omega
def cci (N : Nat) : Nat → Nat → Nat
  | 0, k => k
  | r + 1, k => if hby N k = 0 then k else if okb (byt N k) = true then cci N r (k + 1) else 0
theorem cci_le {N : Nat} : ∀ (r k : Nat), cci N r k ≤ k + r
  | 0, k => Nat.le_refl _
  | r + 1, k => by
    unfold cci
    split
    · omega
    · split
      · have := cci_le (N := N) r (k + 1); omega
      · omega
def apc (P : Nat → Int32) (n N c i : Nat) : Nat → Int32 := fun x => if n ≤ x ∧ x < n + (c - i) then nI (byt N (c - 1 - (x - n))) else P x
theorem apc_0 (P : Nat → Int32) (n N c : Nat) : apc P n N c c = P := funext fun x => if_neg (by omega)
theorem apc_s (P : Nat → Int32) {n N c j : Nat} (hj : j < c) : upd (apc P n N c (j + 1)) (n + (c - (j + 1))) (nI (byt N j)) = apc P n N c j := funext fun x => by
  by_cases h : x = n + (c - (j + 1))
  · subst h
    rw [pk_us]
    unfold apc
    rw [if_pos (by omega)]
    congr 2
    omega
  · rw [pk_un h]
    unfold apc
    by_cases h2 : n ≤ x ∧ x < n + (c - (j + 1))
    · rw [if_pos h2, if_pos (by omega)]
    · rw [if_neg h2, if_neg (by omega)]
def apm (P : Nat → Int32) (n N c k : Nat) : Nat → Int32 := fun x => if n + (c - k) ≤ x ∧ x < n + c then nI (byt N (n + c - 1 - x)) else P x
theorem apm_0 (P : Nat → Int32) (n N c : Nat) : apm P n N c 0 = P := funext fun x => if_neg (by omega)
theorem apm_s (P : Nat → Int32) {n N c k : Nat} (hk : k < c) : upd (apm P n N c k) (n + c - 1 - k) (nI (byt N k)) = apm P n N c (k + 1) := funext fun x => by
  by_cases h : x = n + c - 1 - k
  · subst h
    rw [pk_us]
    unfold apm
    rw [if_pos (by omega)]
    congr 2
    omega
  · rw [pk_un h]
    unfold apm
    by_cases h2 : n + (c - k) ≤ x ∧ x < n + c
    · rw [if_pos h2, if_pos (by omega)]
    · rw [if_neg h2, if_neg (by omega)]
theorem apc_apm (P : Nat → Int32) (n N c : Nat) : apc P n N c 0 = apm P n N c c := funext fun x => by
  unfold apc apm
  by_cases h : n ≤ x ∧ x < n + c
  · rw [if_pos (by omega), if_pos (by omega)]
    congr 2
    omega
  · rw [if_neg (by omega), if_neg (by omega)]
def c_put (P : Nat → Int32) (n N : Nat) : Int32 × (Nat → Int32) × Nat := if 1 ≤ cci N 8 0 then (if n + cci N 8 0 ≤ 80 then (nI (n + cci N 8 0), apc P n N (cci N 8 0) 0, n + cci N 8 0) else (-4, P, n)) else (-2, P, n)
def isE (N k : Nat) : Bool := decide (0 < k) && decide (hby N k = 0)
def mpt (N : Nat) : Nat → Nat → Nat → Bool → Nat × Bool
  | 0, _, m, bad => (m, bad)
  | r + 1, k, m, bad => mpt N r (k + 1) (m + (if isE N k = true then 0 else 1)) (bad || (!isE N k && !okb (byt N k)))
theorem mpt_le {N : Nat} : ∀ (r k m : Nat) (bad : Bool), (mpt N r k m bad).1 ≤ m + r
  | 0, _, _, _ => Nat.le_refl _
  | r + 1, k, m, bad => by
    unfold mpt
    have := mpt_le (N := N) r (k + 1) (m + (if isE N k = true then 0 else 1)) (bad || (!isE N k && !okb (byt N k)))
    have h2 : (if isE N k = true then 0 else 1) ≤ 1 := by split <;> omega
    omega
def m_put (P : Nat → Int32) (n N : Nat) : Int32 × (Nat → Int32) × Nat := if (mpt N 8 0 0 false).2 = true then (-2, P, n) else if n + (mpt N 8 0 0 false).1 ≤ 80 then (nI (n + (mpt N 8 0 0 false).1), apm P n N (mpt N 8 0 0 false).1 (mpt N 8 0 0 false).1, n + (mpt N 8 0 0 false).1) else (-4, P, n)
theorem dec_l (j : Nat) : nI (j + 1) - 1 + Int32.ofInt (-1) = nI j - 1 := by rw [nI_pred, Int32.sub_eq_add_neg]; rfl
theorem sub1_neg {i : Nat} (hi : i < 2 ^ 30) : (nI i - 1 < 0) ↔ i = 0 := by
  cases i with
  | zero => exact ⟨fun _ => rfl, fun _ => by decide⟩
  | succ j =>
    rw [nI_pred]
    exact ⟨fun h => absurd h (nI_pos (by omega)), fun h => by omega⟩
theorem narc_byt (N k : Nat) : vp_nar .char (nI (byt N k)) = nI (byt N k) := by
  have h := (pk_charN (q := byt N k) (by have := byt_lt N k; omega)).1
  unfold vp_nar
  rw [h]
set_option maxHeartbeats 4000000 in
set_option maxRecDepth 100000 in
theorem c_P_charactersIn (l : Launch) (D : va_G) (ca : Nat → ClassId) (po tx pl N : Nat) (hN : N < 2 ^ 64) : RO l y_P_charactersIn b_P_charactersIn 8 (some .int) 0 0 D ca [.ref po, .long (lN N)] [(po, .inr (2, [.ref tx, .int (nI pl)]))] (nI (cci N 8 0)) := by
  refine RO.mk (ty := .int) rfl rfl (Nat.le_of_ble_eq_true rfl) ?_
  intro p e s m args below meth c Q S hP hK
  obtain ⟨hx, hb, hml, hown, hts⟩ := id S
  intro hret ls hl0
  have hl : lv_has ls 8 [(0, .ref po), (1, .long (lN N))] := hl0
  refine lv_lload_n hx hb d_P_charactersIn_0 rfl (lv_at hl 1 rfl) ?_
  refine lv_lstore_n (lv' := [(3, .long (lN N)), (0, .ref po), (1, .long (lN N))]) hx hb d_P_charactersIn_1 rfl hl (by decide) rfl (fun ls hl => ?_)
  refine lv_iconst (v := 0) hx hb d_P_charactersIn_2 (by decide) ?_
  refine lv_istore (lv' := [(5, .int 0), (3, .long (lN N)), (0, .ref po), (1, .long (lN N))]) hx hb d_P_charactersIn_3 hl (by decide) rfl (fun ls hl => ?_)
  suffices lp : ∀ (r k : Nat), 8 - k < r → k ≤ 8 → cci N 8 0 = cci N (8 - k) k → ∀ ls : Array Slot, lv_has ls 8 [(5, .int (nI k)), (3, .long (lN (hby N k))), (0, .ref po), (1, .long (lN N))] → W p l e (rm 0 0 0 0) s m args below meth c s.heap [] 0 0 Q (F0 m 5 ls []) from lp 9 0 (by omega) (by omega) rfl _ (by rw [hb_0]; exact lv_sub hl [0, 1, 2, 3] rfl)
  intro r
  induction r with
  | zero => intro k hk; omega
  | succ r ih =>
    intro k hk hkn hE ls hl
    refine lv_iload hx hb d_P_charactersIn_5 (lv_at hl 0 rfl) ?_
    refine lv_bipush (v := 8) hx hb d_P_charactersIn_7 (by decide) ?_
    refine lv_icmp_ge (tgt := 56) hx hb d_P_charactersIn_9 (by decide) (fun c_9 => ?_) (fun c_9 => ?_)
    · have e_9 : 8 ≤ k := le_of_nI (by omega) (by omega) (show nI 8 ≤ nI k from c_9)
      obtain rfl : k = 8 := by omega
      have hR : cci N 8 0 = 8 := hE
      refine lv_iload hx hb d_P_charactersIn_56 (lv_at hl 0 rfl) ?_
      exact hret _ _ _ d_P_charactersIn_58 rfl (by rw [hR]; first | done | rfl)
    · have e_9 : k < 8 := nle_lt (by omega) (by omega) (show ¬ nI 8 ≤ nI k from c_9)
      rw [show 8 - k = (8 - (k + 1)) + 1 by omega] at hE
      have hbt := byt_lt N k
      refine lv_lload_n hx hb d_P_charactersIn_12 rfl (lv_at hl 1 rfl) ?_
      refine lv_lconst (v := 0) hx hb d_P_charactersIn_13 (by decide) ?_
      refine W.lcmp hx hb d_P_charactersIn_14 ?_
      refine lv_if_eq (tgt := 56) hx hb d_P_charactersIn_15 (by decide) (fun c_15 => ?_) (fun c_15 => ?_)
      · have e_15 : hby N k = 0 := (lN_z (hb_lt hN k)).mp ((lg_cmp_eq _ _).mp c_15)
        have hR : cci N 8 0 = k := by rw [hE]; simp only [cci, e_15, ↓reduceIte]
        refine lv_iload hx hb d_P_charactersIn_56 (lv_at hl 0 rfl) ?_
        exact hret _ _ _ d_P_charactersIn_58 rfl (by rw [hR]; first | done | rfl)
      · have e_15 : ¬ hby N k = 0 := fun z => c_15 ((lg_cmp_eq _ _).mpr ((lN_z (hb_lt hN k)).mpr z))
        refine lv_lload_n hx hb d_P_charactersIn_18 rfl (lv_at hl 1 rfl) ?_
        refine lv_ldc2 (v := 255) hx hb hown (hts _ ct_P_23) d_P_charactersIn_19 ?_
        refine lv_land hx hb d_P_charactersIn_22 ?_
        refine lv_topel (z := lN (byt N k)) (l_and hN k) ?_
        refine lv_lstore (lv' := [(6, .long (lN (byt N k))), (5, .int (nI k)), (3, .long (lN (hby N k))), (0, .ref po), (1, .long (lN N))]) hx hb d_P_charactersIn_23 hl (by decide) rfl (fun ls hl => ?_)
        refine lv_lload hx hb d_P_charactersIn_25 (lv_at hl 0 rfl) ?_
        refine lv_ldc2 (v := 33) hx hb hown (hts _ ct_P_25) d_P_charactersIn_27 ?_
        refine W.lcmp hx hb d_P_charactersIn_30 ?_
        refine lv_if_lt (tgt := 43) hx hb d_P_charactersIn_31 (by decide) (fun c_31 => ?_) (fun c_31 => ?_)
        · have e_31 : byt N k < 33 := (pk_lLT (b := 33) (by omega) (by decide)).mp ((lg_cmp_lt _ _).mp c_31)
          have e_ok : okb (byt N k) = false := by unfold okb; simp; omega
          have hR : cci N 8 0 = 0 := by rw [hE]; simp only [cci, e_15, e_ok, Bool.false_eq_true, ↓reduceIte]
          refine lv_iconst (v := 0) hx hb d_P_charactersIn_43 (by decide) ?_
          exact hret _ _ _ d_P_charactersIn_44 rfl (by rw [hR]; rfl)
        · have e_31 : ¬ byt N k < 33 := fun z => c_31 ((lg_cmp_lt _ _).mpr ((pk_lLT (b := 33) (by omega) (by decide)).mpr z))
          refine lv_lload hx hb d_P_charactersIn_34 (lv_at hl 0 rfl) ?_
          refine lv_ldc2 (v := 126) hx hb hown (hts _ ct_P_27) d_P_charactersIn_36 ?_
          refine W.lcmp hx hb d_P_charactersIn_39 ?_
          refine lv_if_le (tgt := 45) hx hb d_P_charactersIn_40 (by decide) (fun c_40 => ?_) (fun c_40 => ?_)
          · have e_40 : byt N k ≤ 126 := (pk_lLE (b := 126) (by omega) (by decide)).mp ((lg_cmp_le _ _).mp c_40)
            have e_ok : okb (byt N k) = true := by unfold okb; simp; omega
            refine lv_lload_n hx hb d_P_charactersIn_45 rfl (lv_at hl 2 rfl) ?_
            refine lv_bipush (v := 8) hx hb d_P_charactersIn_46 (by decide) ?_
            refine lv_lushr (v := lN (hby N (k + 1))) hx hb d_P_charactersIn_48 (l_shr8 hN k) ?_
            refine lv_lstore_n (lv' := [(3, .long (lN (hby N (k + 1)))), (6, .long (lN (byt N k))), (5, .int (nI k)), (0, .ref po), (1, .long (lN N))]) hx hb d_P_charactersIn_49 rfl hl (by decide) rfl (fun ls hl => ?_)
            refine lv_iinc (v := nI (k + 1)) (lv' := [(5, .int (nI (k + 1))), (3, .long (lN (hby N (k + 1)))), (6, .long (lN (byt N k))), (0, .ref po), (1, .long (lN N))]) hx hb d_P_charactersIn_50 hl (k := 2) rfl (nI_1 k) (by decide) rfl (fun ls hl => ?_)
            refine lv_goto (tgt := 5) hx hb d_P_charactersIn_53 (by decide) ?_
            exact ih (k + 1) (by omega) (by omega) (by rw [hE]; simp only [cci, e_15, e_ok, ↓reduceIte]) _ (lv_sub hl [0, 1, 3, 4] rfl)
          · have e_40 : ¬ byt N k ≤ 126 := fun z => c_40 ((lg_cmp_le _ _).mpr ((pk_lLE (b := 126) (by omega) (by decide)).mpr z))
            have e_ok : okb (byt N k) = false := by unfold okb; simp; omega
            have hR : cci N 8 0 = 0 := by rw [hE]; simp only [cci, e_15, e_ok, Bool.false_eq_true, ↓reduceIte]
            refine lv_iconst (v := 0) hx hb d_P_charactersIn_43 (by decide) ?_
            exact hret _ _ _ d_P_charactersIn_44 rfl (by rw [hR]; rfl)
set_option maxHeartbeats 4000000 in
set_option maxRecDepth 100000 in
theorem c_P_append (l : Launch) (D : va_G) (ca : Nat → ClassId) (po tx : Nat) (P : Nat → Int32) (pl N : Nat) (hN : N < 2 ^ 64) (hpl : pl ≤ 80) : MI l y_P_append b_P_append 5 (some .int) 1 27 D ca [.ref po, .long (lN N)] [(po, .inr (2, [.ref tx, .int (nI pl)])), (tx, .inl (ca 2, 80, .inl P))] ((c_put P pl N).1) [(po, .inr (2, [.ref tx, .int (nI ((c_put P pl N).2.2))])), (tx, .inl (ca 2, 80, .inl ((c_put P pl N).2.1)))] := by
  refine MI.mk (ty := .int) rfl rfl (Nat.le_of_ble_eq_true rfl) ?_
  intro p e s m args below meth c Q A S hA hP hD hK
  obtain ⟨hx, hb, hml, hown, hts⟩ := id S
  intro hret ls hl0 hS
  have hl : lv_has ls 5 [(0, .ref po), (1, .long (lN N))] := hl0
  refine lv_aload_n hx hb d_P_append_0 rfl (lv_at hl 0 rfl) ?_
  refine lv_lload_n hx hb d_P_append_1 rfl (lv_at hl 1 rfl) ?_
  refine RO.callV S (c_P_charactersIn l D ca  po tx pl N (by omega)) k_P_19 hP hK [0] rfl 0 (ci := 2) (fs := [.ref tx, .int (nI pl)]) rfl rfl rfl rfl hl.1 ⟨Nat.le_of_ble_eq_true rfl, Nat.le_of_ble_eq_true rfl⟩ ⟨Nat.zero_le _, Nat.zero_le _⟩ (Nat.le_of_ble_eq_true rfl) d_P_append_2 ?_
  obtain ⟨cc, hcc⟩ : ∃ z_, z_ = cci N 8 0 := ⟨_, rfl⟩
  rw [← hcc]
  have hc8 : cc ≤ 8 := by have := cci_le (N := N) 8 0; omega
  refine lv_istore_n (lv' := [(3, .int (nI cc)), (0, .ref po), (1, .long (lN N))]) hx hb d_P_append_5 rfl hl (by decide) rfl (fun ls hl => ?_)
  refine lv_iload_n hx hb d_P_append_6 rfl (lv_at hl 0 rfl) ?_
  refine lv_iconst (v := 1) hx hb d_P_append_7 (by decide) ?_
  refine lv_icmp_ge (tgt := 14) hx hb d_P_append_8 (by decide) (fun c_8 => ?_) (fun c_8 => ?_)
  · have e_8 : 1 ≤ cc := le_of_nI (by omega) (by omega) (show nI 1 ≤ nI cc from c_8)
    refine lv_aload_n hx hb d_P_append_14 rfl (lv_at hl 1 rfl) ?_
    refine f_get S cls_P hK hP 0 rfl 1 (by decide) fl_P_size rfl rfl d_P_append_15 ?_
    refine lv_iload_n hx hb d_P_append_18 rfl (lv_at hl 0 rfl) ?_
    refine lv_iadd hx hb d_P_append_19 ?_
    refine lv_tope (z := nI (pl + cc)) (nI_add pl cc) ?_
    refine lv_bipush (v := 80) hx hb d_P_append_20 (by decide) ?_
    refine lv_icmp_le (tgt := 28) hx hb d_P_append_22 (by decide) (fun c_22 => ?_) (fun c_22 => ?_)
    · have e_22 : pl + cc ≤ 80 := le_of_nI (b := pl + cc) (a := 80) (by omega) (by omega) c_22
      refine lv_iload_n hx hb d_P_append_28 rfl (lv_at hl 0 rfl) ?_
      refine lv_iconst (v := 1) hx hb d_P_append_29 (by decide) ?_
      refine lv_isub hx hb d_P_append_30 ?_
      refine lv_istore (lv' := [(4, .int ((nI cc) - 1)), (3, .int (nI cc)), (0, .ref po), (1, .long (lN N))]) hx hb d_P_append_31 hl (by decide) rfl (fun ls hl => ?_)
      suffices lp : ∀ (i : Nat), i ≤ cc → ∀ (H : Heap) (locs : List Loc), va_P D classes [(po, .inr (2, [.ref tx, .int (nI (pl + (cc - i)))])), (tx, .inl (ca 2, 80, .inl (apc P pl N cc i)))] H → va_D A [(po, .inr (2, [.ref tx, .int (nI (pl + (cc - i)))])), (tx, .inl (ca 2, 80, .inl (apc P pl N cc i)))] → va_S A s.heap H locs → ∀ ls : Array Slot, lv_has ls 5 [(4, .int (nI i - 1)), (3, .int (nI cc)), (0, .ref po), (1, .long (lN N))] → W p l e (rm 1 27 0 0) s m args below meth c H locs 0 0 Q (F0 m 33 ls []) from lp cc (Nat.le_refl _) _ _ (by rw [apc_0, Nat.sub_self]; exact hP) (by rw [apc_0, Nat.sub_self]; exact hD) hS _ (lv_sub hl [0, 1, 2, 3] rfl)
      intro i
      induction i with
      | zero =>
        intro hi H locs hP hD hS ls hl
        refine lv_iload hx hb d_P_append_33 (lv_at hl 0 rfl) ?_
        refine lv_if_lt (tgt := 76) hx hb d_P_append_35 (by decide) (fun _ => ?_) (fun q => absurd (by decide) q)
        refine lv_aload_n hx hb d_P_append_76 rfl (lv_at hl 2 rfl) ?_
        refine f_get S cls_P hK hP 0 rfl 1 (by decide) fl_P_size rfl rfl d_P_append_77 ?_
        exact hret _ _ _ _ _ _ d_P_append_80 rfl (by simp only [c_put, ← hcc, e_8, e_22, ↓reduceIte, Nat.sub_zero]) (by simp only [c_put, ← hcc, e_8, e_22, ↓reduceIte, Nat.sub_zero]) hP hD hS
      | succ j ih =>
        intro hi H locs hP hD hS ls hl
        refine lv_iload hx hb d_P_append_33 (lv_at hl 0 rfl) ?_
        refine lv_if_lt (tgt := 76) hx hb d_P_append_35 (by decide) (fun q => absurd q (fun z => absurd ((sub1_neg (i := j + 1) (by omega)).mp z) (by omega))) (fun _ => ?_)
        refine lv_aload_n hx hb d_P_append_38 rfl (lv_at hl 2 rfl) ?_
        refine f_get S cls_P hK hP 0 rfl 0 (by decide) fl_P_text rfl rfl d_P_append_39 ?_
        refine lv_aload_n hx hb d_P_append_42 rfl (lv_at hl 2 rfl) ?_
        refine f_get S cls_P hK hP 0 rfl 1 (by decide) fl_P_size rfl rfl d_P_append_43 ?_
        refine lv_lload_n hx hb d_P_append_46 rfl (lv_at hl 3 rfl) ?_
        refine lv_bipush (v := 8) hx hb d_P_append_47 (by decide) ?_
        refine lv_iload hx hb d_P_append_49 (lv_at hl 0 rfl) ?_
        refine lv_tope (z := nI j) (nI_pred j) ?_
        refine lv_imul hx hb d_P_append_51 ?_
        refine lv_tope (z := nI (8 * j)) (pk_mul 8 j) ?_
        refine lv_lushr (v := lN (hby N j)) hx hb d_P_append_52 (l_shr hN (by omega)) ?_
        refine lv_ldc2 (v := 255) hx hb hown (hts _ ct_P_23) d_P_append_53 ?_
        refine lv_land hx hb d_P_append_56 ?_
        refine lv_topel (z := lN (byt N j)) (l_and hN j) ?_
        refine lv_l2i (v := nI (byt N j)) hx hb d_P_append_57 (lN_i (byt N j)) ?_
        refine lv_i2c (v := nI (byt N j)) hx hb d_P_append_58 (byt_ch N j) ?_
        refine A_cst S hK hP hD hS 1 2 (f := apc P pl N cc (j + 1)) rfl rfl (r := pl + (cc - (j + 1))) (by omega) (by decide) rfl d_P_append_59 (fun H locs hP hD hS => ?_)
        rw [show vp_nar .char (nI (byt N j)) = nI (byt N j) from narc_byt N j] at hP hD
        rw [show upd (apc P pl N cc (j + 1)) (pl + (cc - (j + 1))) (nI (byt N j)) = apc P pl N cc j from apc_s P (by omega)] at hP hD
        have hP : va_P D classes [(po, .inr (2, [.ref tx, .int (nI (pl + (cc - (j + 1))))])), (tx, .inl (ca 2, 80, .inl (apc P pl N cc j)))] H := hP
        have hD : va_D A [(po, .inr (2, [.ref tx, .int (nI (pl + (cc - (j + 1))))])), (tx, .inl (ca 2, 80, .inl (apc P pl N cc j)))] := hD
        refine lv_aload_n hx hb d_P_append_60 rfl (lv_at hl 2 rfl) ?_
        refine lv_dup hx hb d_P_append_61 rfl ?_
        refine f_get S cls_P hK hP 0 rfl 1 (by decide) fl_P_size rfl rfl d_P_append_62 ?_
        refine lv_iconst (v := 1) hx hb d_P_append_65 (by decide) ?_
        refine lv_iadd hx hb d_P_append_66 ?_
        refine lv_tope (z := nI (pl + (cc - j))) ((nI_1 _).trans (congrArg nI (by omega))) ?_
        refine f_put S cls_P hK hP hD hS 0 rfl 1 (by decide) fl_P_size rfl rfl (rfl) (rfl) (Nat.le_of_ble_eq_true rfl) d_P_append_67 (fun H locs hP hD hS => ?_)
        have hP : va_P D classes [(po, .inr (2, [.ref tx, .int (nI (pl + (cc - j)))])), (tx, .inl (ca 2, 80, .inl (apc P pl N cc j)))] H := hP
        have hD : va_D A [(po, .inr (2, [.ref tx, .int (nI (pl + (cc - j)))])), (tx, .inl (ca 2, 80, .inl (apc P pl N cc j)))] := hD
        refine lv_iinc (v := nI j - 1) (lv' := [(4, .int (nI j - 1)), (3, .int (nI cc)), (0, .ref po), (1, .long (lN N))]) hx hb d_P_append_70 hl (k := 0) rfl (dec_l j) (by decide) rfl (fun ls hl => ?_)
        refine lv_goto (tgt := 33) hx hb d_P_append_73 (by decide) ?_
        exact ih (by omega) _ _ hP hD hS _ (lv_sub hl [0, 1, 2, 3] rfl)
    · have e_22 : ¬ pl + cc ≤ 80 := fun z => c_22 (nI_le (b := 80) z (by omega))
      refine lv_bipush (v := (-4)) hx hb d_P_append_25 (by decide) ?_
      exact hret _ _ _ _ _ _ d_P_append_27 rfl (by first | (simp only [c_put, ← hcc, e_8, e_22, ↓reduceIte]; done) | (simp only [c_put, ← hcc, e_8, e_22, ↓reduceIte]; rfl) | rfl) (by first | (simp only [c_put, ← hcc, e_8, e_22, ↓reduceIte]; done) | (simp only [c_put, ← hcc, e_8, e_22, ↓reduceIte]; rfl) | rfl) hP hD hS
  · have e_8 : ¬ 1 ≤ cc := fun z => c_8 (nI_le (a := 1) z (by omega))
    refine lv_bipush (v := (-2)) hx hb d_P_append_11 (by decide) ?_
    exact hret _ _ _ _ _ _ d_P_append_13 rfl (by first | (simp only [c_put, ← hcc, e_8, ↓reduceIte]; done) | (simp only [c_put, ← hcc, e_8, ↓reduceIte]; rfl) | rfl) (by first | (simp only [c_put, ← hcc, e_8, ↓reduceIte]; done) | (simp only [c_put, ← hcc, e_8, ↓reduceIte]; rfl) | rfl) hP hD hS
set_option maxHeartbeats 4000000 in
set_option maxRecDepth 100000 in
theorem c_E_put (l : Launch) (D : va_G) (ca : Nat → ClassId) (e_ pa sl sv po ro : Nat) (tT tB : Nat → Nat) (n tx : Nat) (P : Nat → Int32) (pl N : Nat) (hN : N < 2 ^ 64) (hpl : pl ≤ 80) : MI l y_E_put b_E_put 3 (some .int) 2 51 D ca [.ref e_, .long (lN N)] (List.flatten [[(e_, .inr (0, [.ref pa, .ref sl, .ref sv, .ref po, .ref ro, .ref (tT 0), .ref (tB 0), .int (nI n)]))], [(po, .inr (2, [.ref tx, .int (nI pl)]))], [(tx, .inl (ca 2, 80, .inl P))]]) ((c_put P pl N).1) (List.flatten [[(e_, .inr (0, [.ref pa, .ref sl, .ref sv, .ref po, .ref ro, .ref (tT 0), .ref (tB 0), .int (nI n)]))], [(po, .inr (2, [.ref tx, .int (nI ((c_put P pl N).2.2))]))], [(tx, .inl (ca 2, 80, .inl ((c_put P pl N).2.1)))]]) := by
  refine MI.mk (ty := .int) rfl rfl (Nat.le_of_ble_eq_true rfl) ?_
  intro p e s m args below meth c Q A S hA hP hD hK
  obtain ⟨hx, hb, hml, hown, hts⟩ := id S
  intro hret ls hl0 hS
  have hl : lv_has ls 3 [(0, .ref e_), (1, .long (lN N))] := hl0
  refine lv_aload_n hx hb d_E_put_0 rfl (lv_at hl 0 rfl) ?_
  refine f_get S cls_E hK hP 0 rfl 3 (by decide) fl_E_pad rfl rfl d_E_put_1 ?_
  refine lv_lload_n hx hb d_E_put_4 rfl (lv_at hl 1 rfl) ?_
  refine MI.callB (bs := [[(e_, .inr (0, [.ref pa, .ref sl, .ref sv, .ref po, .ref ro, .ref (tT 0), .ref (tB 0), .int (nI n)]))], [(po, .inr (2, [.ref tx, .int (nI pl)]))], [(tx, .inl (ca 2, 80, .inl P))]]) (bc := [[(po, .inr (2, [.ref tx, .int (nI pl)]))], [(tx, .inl (ca 2, 80, .inl P))]]) (br := [[(e_, .inr (0, [.ref pa, .ref sl, .ref sv, .ref po, .ref ro, .ref (tT 0), .ref (tB 0), .int (nI n)]))]]) (bc' := [[(po, .inr (2, [.ref tx, .int (nI ((c_put P pl N).2.2))]))], [(tx, .inl (ca 2, 80, .inl ((c_put P pl N).2.1)))]]) S (c_P_append l D ca  po tx P pl N (by omega) (by omega)) k_E_109 hP hD hS hA hK [1, 2] [0] rfl rfl rfl rfl rfl rfl (by decide +kernel) 1 (ci := 2) (fs := [.ref tx, .int (nI pl)]) rfl rfl rfl rfl hl.1 ⟨Nat.le_of_ble_eq_true rfl, Nat.le_of_ble_eq_true rfl⟩ ⟨Nat.zero_le _, Nat.zero_le _⟩ (Nat.le_of_ble_eq_true rfl) d_E_put_5 (fun H locs hP hD hS => ?_)
  have hP : va_P D classes (List.flatten [[(e_, .inr (0, [.ref pa, .ref sl, .ref sv, .ref po, .ref ro, .ref (tT 0), .ref (tB 0), .int (nI n)]))], [(po, .inr (2, [.ref tx, .int (nI ((c_put P pl N).2.2))]))], [(tx, .inl (ca 2, 80, .inl ((c_put P pl N).2.1)))]]) H := hP
  have hD : va_D A (List.flatten [[(e_, .inr (0, [.ref pa, .ref sl, .ref sv, .ref po, .ref ro, .ref (tT 0), .ref (tB 0), .int (nI n)]))], [(po, .inr (2, [.ref tx, .int (nI ((c_put P pl N).2.2))]))], [(tx, .inl (ca 2, 80, .inl ((c_put P pl N).2.1)))]]) := hD
  exact hret _ _ _ _ _ _ d_E_put_8 rfl (by first | (simp only [↓reduceIte]; done) | (simp only [↓reduceIte]; rfl) | rfl) (by first | (simp only [↓reduceIte]; done) | (simp only [↓reduceIte]; rfl) | rfl) hP hD hS
